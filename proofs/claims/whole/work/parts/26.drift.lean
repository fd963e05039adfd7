/-! DRIFT, SLIPS -/
section DRIFT
variable {G : zG} {A : zQs} {x y z : Int32}
theorem B_drift (ho : Ao A) : zBoth G 119 219 [.int x, .int y, .int z] A := by
  obtain ⟨⟨so, sz, sst, lo, po, eo⟩, ok0, ok1, oi0, oi1, ot, ob, of_, or_, oh⟩ := id ho
  obtain ⟨o1, o2, o3, o4, o5, o6, o7⟩ := id so
  obtain ⟨p1, p2, p3⟩ := id lo
  obtain ⟨u1, u2⟩ := id po
  obtain ⟨e1, e2⟩ := id eo
  by_cases v : 1 ≤ y.toInt ∧ y.toInt ≤ 60
  · by_cases w : 0 ≤ z.toInt ∧ z.toInt ≤ 1
    · by_cases t : sn (kS (aK A)) < 2
      · refine ⟨.int (-2), A, ho, fun I L Q pc hq => ?_, fun I L Q pm hq => ?_⟩
        · obtain ⟨⟨hp, lp, pp, ep⟩, hk, hi0, hi1, ht, hb, hf, hr, hh⟩ := id pc
          refine Zm.go [some (.ref _), some (.int _), some (.int _), some (.int _), none, none, none, none, none] vl_119 rfl ?_
          refine Zp.iload_n k_119_0 rfl ?_
          refine Zp.iconst (nI 1) k_119_1 (by decide) ?_
          refine Zp.bipush (nI 60) k_119_2 (by decide) ?_
          refine Zp.calls3I vs_129 k_119_4 (Nat.le_of_ble_eq_true rfl) (Nat.le_of_ble_eq_true rfl) (c_isWithin rfl (nI_toInt (by omega)) (nI_toInt (by omega)) ⟨_, rfl, ?_⟩)
          refine Zp.if_eqB k_119_7 (fun c_7 => absurd c_7 (by omega)) (fun c_7 => ?_)
          refine Zp.iload_n k_119_10 rfl ?_
          refine Zp.iconst (nI 0) k_119_11 (by decide) ?_
          refine Zp.iconst (nI 1) k_119_12 (by decide) ?_
          refine Zp.calls3I vs_129 k_119_13 (Nat.le_of_ble_eq_true rfl) (Nat.le_of_ble_eq_true rfl) (c_isWithin rfl (nI_toInt (by omega)) (nI_toInt (by omega)) ⟨_, rfl, ?_⟩)
          refine Zp.if_neB k_119_16 (fun c_16 => ?_) (fun c_16 => absurd c_16 (by omega))
          refine Zp.aload_n k_119_21 rfl ?_
          refine Zp.getR k_119_22 rfl (zlt rfl) m_0 r_0_0 ?_
          refine Zp.getR k_119_25 rfl (zlt rfl) m_1 r_1_0 ?_
          refine Zp.getV k_119_28 rfl (zlt rfl) m_2 hp.1 ?_
          refine Zp.istore [some (.ref _), some (.int _), some (.int _), some (.int _), some (.int _), none, none, none, none] k_119_31 (Nat.lt_of_lt_of_eq (zlt rfl : 4 < 9) vl_119.symm) rfl ?_
          refine Zp.iload k_119_33 rfl ?_
          refine Zp.iconst (nI 2) k_119_35 (by decide) ?_
          refine Zp.icmp_geN k_119_36 (by omega) (by omega) (fun c_36 => absurd c_36 (by omega)) (fun c_36 => ?_)
          refine Zp.bipush (-2) k_119_39 (by decide) ?_
          refine Zp.iret _ k_119_41 vr_119 rfl ?_
          exact hq I pc (FrC.rf I)
        · obtain ⟨m3, ⟨mp, xp⟩, m4, ms1, ms2, ms3, mk0, mk1, mi0, mi1, mt, mb, mf, mr, mh⟩ := id pm
          refine Zm.go [some (.ref _), some (.int _), some (.int _), some (.int _), none, none, none, none] vl_219 rfl ?_
          refine Zp.iload_n k_219_0 rfl ?_
          refine Zp.i2l k_219_1 ?_
          refine Zp.lconst (lN 1) k_219_2 (by decide) ?_
          refine Zp.ldc2 (lN 60) k_219_3 (by decide) ?_
          refine Zp.calls3I vs_131 k_219_6 (Nat.le_of_ble_eq_true rfl) (Nat.le_of_ble_eq_true rfl) (c_in (zi2l _) (lN_z (by decide)) (lN_z (by decide)) ⟨_, rfl, ?_⟩)
          refine Zp.if_eqB k_219_9 (fun c_9 => absurd c_9 (by omega)) (fun c_9 => ?_)
          refine Zp.iload_n k_219_12 rfl ?_
          refine Zp.calls1I vs_158 k_219_13 (Nat.le_of_ble_eq_true rfl) (Nat.le_of_ble_eq_true rfl) (c_isPartM ⟨_, rfl, ?_⟩)
          refine Zp.if_neB k_219_16 (fun c_16 => ?_) (fun c_16 => absurd c_16 (by omega))
          refine Zp.aload_n k_219_21 rfl ?_
          refine Zp.getV k_219_22 rfl (zlt rfl) m_93 m3 ?_
          refine Zp.iconst (nI 2) k_219_25 (by decide) ?_
          refine Zp.icmp_geN k_219_26 (by omega) (by omega) (fun c_26 => absurd c_26 (by omega)) (fun c_26 => ?_)
          refine Zp.bipush (-2) k_219_29 (by decide) ?_
          refine Zp.iret _ k_219_31 vr_219 rfl ?_
          first | exact hq I L pm (FrM.rf I) | exact hq I2 L pm2 (fun q hq => s2 q (by omega))
      · obtain ⟨n, hn, rfl, en⟩ := zin_nI (n := 61) (x := y) (by omega) (by omega)
        obtain ⟨c, hc, rfl, ec⟩ := zin_nI (n := 2) w.1 (by omega)
        have go := drS_o so x n
        have go4 := go.2.2.2.1
        have dss : ∀ i, drS (kS (aK A)) x (i + 1) = (if sset (drS (kS (aK A)) x i).1 = 0 then stS (drS (kS (aK A)) x i).1 (drA (sn (kS (aK A))) (drS (kS (aK A)) x i).2) (drB (sn (kS (aK A))) (drS (kS (aK A)) x i).2) else (drS (kS (aK A)) x i).1, grX (grX (drS (kS (aK A)) x i).2)) := fun _ => rfl
        refine ⟨.int (nI (if c = 0 then sdone (drS (kS (aK A)) x n).1 else sm (sht (drS (kS (aK A)) x n).1) 25)), A, ho, fun I L Q pc hq => ?_, fun I L Q pm hq => ?_⟩
        · obtain ⟨⟨hp, lp, pp, ep⟩, hk, hi0, hi1, ht, hb, hf, hr, hh⟩ := id pc
          have lcN : ∀ (v1 v2 v3 v4 v5 v6 v7 v8 v9 : Value) (j : Nat) (u : Value), ([some v1, some v2, some v3, some v4, some v5, some v6, some v7, none, none] : List (Option Value))[j]? = some (some u) → ([some v1, some v2, some v3, some v4, some v5, some v6, some v7, some v8, some v9] : List (Option Value))[j]? = some (some u) := by
            intro v1 v2 v3 v4 v5 v6 v7 v8 v9 j u hj
            match j, hj with
            | 0, hj => exact hj
            | 1, hj => exact hj
            | 2, hj => exact hj
            | 3, hj => exact hj
            | 4, hj => exact hj
            | 5, hj => exact hj
            | 6, hj => exact hj
            | 7, hj => exact absurd hj (by simp)
            | 8, hj => exact absurd hj (by simp)
            | _ + 9, hj => exact absurd hj (by simp)
          have fin : ∀ (u5 : Int32) (i : Nat) (I1 : zI), (drS (kS (aK A)) x i).1 = (drS (kS (aK A)) x n).1 → Sp I1 31 (drS (kS (aK A)) x i).1 → (∀ q, q < 31 ∨ 33 < q → I1 q = I q) → Zp G 119 146 [some (.ref 0), some (.int x), some (.int (nI n)), some (.int (nI c)), some (.int (nI (sn (kS (aK A))))), some (.int u5), some (.int (nI i)), none, none] [] I1 L Q := by
            intro u5 i I1 he hs1 f1
            rw [he] at hs1
            have hq1 := hq I1 (pc.try_ f1) (fun q h => f1 q (by omega))
            refine Zp.iload_n k_119_146 rfl ?_
            refine Zp.if_neN k_119_147 (by omega) (fun c_147 => ?_) (fun c_147 => ?_)
            · refine Zp.aload_n k_119_160 rfl ?_
              refine Zp.getR k_119_161 rfl (zlt rfl) m_0 r_0_5 ?_
              refine Zp.callv0I v_67 k_119_164 m_31 (Nat.le_of_ble_eq_true rfl) (Nat.le_of_ble_eq_true rfl) (c_allHatred sa_31 hs1 go ⟨_, rfl, ?_⟩)
              refine Zp.iret _ k_119_167 vr_119 rfl ?_
              first | (rw [if_pos c_147] at hq1; exact hq1) | (rw [if_neg c_147] at hq1; exact hq1)
            · refine Zp.aload_n k_119_150 rfl ?_
              refine Zp.getR k_119_151 rfl (zlt rfl) m_0 r_0_5 ?_
              refine Zp.getV k_119_154 rfl (zlt rfl) m_31 hs1.2.2.2.2.1 ?_
              refine Zp.goto k_119_157 ?_
              refine Zp.iret _ k_119_167 vr_119 rfl ?_
              first | (rw [if_pos c_147] at hq1; exact hq1) | (rw [if_neg c_147] at hq1; exact hq1)
          have loop : ∀ k i (I1 : zI), i + k = n → Sp I1 31 (drS (kS (aK A)) x i).1 → (∀ q, q < 31 ∨ 33 < q → I1 q = I q) → Zp G 119 62 [some (.ref 0), some (.int x), some (.int (nI n)), some (.int (nI c)), some (.int (nI (sn (kS (aK A))))), some (.int (drS (kS (aK A)) x i).2), some (.int (nI i)), none, none] [] I1 L Q := by
            intro k
            induction k with
            | zero =>
              intro i I1 hi hs1 f1
              have e : i = n := by omega
              subst e
              refine Zp.iload k_119_62 rfl ?_
              refine Zp.iload_n k_119_64 rfl ?_
              refine Zp.icmp_geN k_119_65 (by omega) (by omega) (fun c_65 => ?_) (fun c_65 => absurd c_65 (by omega))
              exact fin _ _ I1 rfl hs1 f1
            | succ k ih =>
              intro i I1 hi hs1 f1
              have g1 := drS_n (kS (aK A)) x i
              have ho1 := drS_o so x i
              have ho5 := ho1.2.2.2.2.1
              have la1 := drA_lt (n := sn (kS (aK A))) (drS (kS (aK A)) x i).2 (by omega)
              have lb1 := drB_lt (n := sn (kS (aK A))) (drS (kS (aK A)) x i).2 (by omega)
              have x1 : drN (grX (drS (kS (aK A)) x i).2) % sn (kS (aK A)) < sn (kS (aK A)) := la1
              have x2 : drN (grX (grX (drS (kS (aK A)) x i).2)) % sn (kS (aK A)) < sn (kS (aK A)) := Nat.mod_lt _ (by omega)
              have d1 := (drX_n (grX (drS (kS (aK A)) x i).2)).2
              have d2 := (drX_n (grX (grX (drS (kS (aK A)) x i).2))).2
              have ih1 := fun I2 => ih (i + 1) I2 (by omega)
              rw [dss] at ih1
              have tl : ∀ (b2 : Nat), b2 = drB (sn (kS (aK A))) (drS (kS (aK A)) x i).2 → sset (drS (kS (aK A)) x i).1 = 0 → Zp G 119 137 [some (.ref 0), some (.int x), some (.int (nI n)), some (.int (nI c)), some (.int (nI (sn (kS (aK A))))), some (.int (grX (grX (drS (kS (aK A)) x i).2))), some (.int (nI i)), some (.int (nI (drN (grX (drS (kS (aK A)) x i).2) % sn (kS (aK A))))), some (.int (nI (drN (grX (grX (drS (kS (aK A)) x i).2)) % sn (kS (aK A)))))] [.int (nI b2), .int (nI (drN (grX (drS (kS (aK A)) x i).2) % sn (kS (aK A)))), .ref 31] I1 L Q := by
                intro b2 hb2 hz
                subst hb2
                rw [if_pos hz] at ih1
                refine Zp.callv2V v_63 k_119_137 m_31 (Nat.le_of_ble_eq_true rfl) (Nat.le_of_ble_eq_true rfl) (c_stirOnce (a := drA (sn (kS (aK A))) (drS (kS (aK A)) x i).2) sa_31 hs1 ho1 (by omega) (by omega) (by omega) (fun I2 hs2 f2 => ⟨rfl, ?_⟩))
                refine Zp.iinc (nI (_ + 1)) [some (.ref _), some (.int _), some (.int _), some (.int _), some (.int _), some (.int _), some (.int _), some (.int _), some (.int _)] k_119_140 rfl (nI_1 _) (Nat.lt_of_lt_of_eq (zlt rfl : 6 < 9) vl_119.symm) rfl ?_
                refine Zp.goto k_119_143 ?_
                exact Zp.locs _ (lcN _ _ _ _ _ _ _ _ _) (ih1 I2 hs2 (fun q h => (f2 q (by omega) (by omega)).trans (f1 q h)))
              refine Zp.iload k_119_62 rfl ?_
              refine Zp.iload_n k_119_64 rfl ?_
              refine Zp.icmp_geN k_119_65 (by omega) (by omega) (fun c_65 => absurd c_65 (by omega)) (fun c_65 => ?_)
              refine Zp.aload_n k_119_68 rfl ?_
              refine Zp.getR k_119_69 rfl (zlt rfl) m_0 r_0_5 ?_
              refine Zp.getV k_119_72 rfl (zlt rfl) m_31 hs1.2.2.2.2.2.1 ?_
              refine Zp.if_neN k_119_75 (by omega) (fun c_75 => ?_) (fun c_75 => ?_)
              · have e := drS_stop c_75 (k + 1)
                rw [hi] at e
                exact fin _ _ I1 e.symm hs1 f1
              · refine Zp.iload k_119_78 rfl ?_
                refine Zp.calls1I vs_120 k_119_80 (Nat.le_of_ble_eq_true rfl) (Nat.le_of_ble_eq_true rfl) (c_grow ⟨_, rfl, ?_⟩)
                refine Zp.istore [some (.ref _), some (.int _), some (.int _), some (.int _), some (.int _), some (.int _), some (.int _), none, none] k_119_83 (Nat.lt_of_lt_of_eq (zlt rfl : 5 < 9) vl_119.symm) rfl ?_
                refine Zp.iload k_119_85 rfl ?_
                refine Zp.calls1I vs_121 k_119_87 (Nat.le_of_ble_eq_true rfl) (Nat.le_of_ble_eq_true rfl) (c_drBits ⟨_, rfl, ?_⟩)
                refine Zp.iload k_119_90 rfl ?_
                refine Zp.iremN k_119_92 (by omega) (by omega) (by omega) ?_
                refine Zp.istore [some (.ref _), some (.int _), some (.int _), some (.int _), some (.int _), some (.int _), some (.int _), some (.int _), none] k_119_93 (Nat.lt_of_lt_of_eq (zlt rfl : 7 < 9) vl_119.symm) rfl ?_
                refine Zp.iload k_119_95 rfl ?_
                refine Zp.calls1I vs_120 k_119_97 (Nat.le_of_ble_eq_true rfl) (Nat.le_of_ble_eq_true rfl) (c_grow ⟨_, rfl, ?_⟩)
                refine Zp.istore [some (.ref _), some (.int _), some (.int _), some (.int _), some (.int _), some (.int _), some (.int _), some (.int _), none] k_119_100 (Nat.lt_of_lt_of_eq (zlt rfl : 5 < 9) vl_119.symm) rfl ?_
                refine Zp.iload k_119_102 rfl ?_
                refine Zp.calls1I vs_121 k_119_104 (Nat.le_of_ble_eq_true rfl) (Nat.le_of_ble_eq_true rfl) (c_drBits ⟨_, rfl, ?_⟩)
                refine Zp.iload k_119_107 rfl ?_
                refine Zp.iremN k_119_109 (by omega) (by omega) (by omega) ?_
                refine Zp.istore [some (.ref _), some (.int _), some (.int _), some (.int _), some (.int _), some (.int _), some (.int _), some (.int _), some (.int _)] k_119_110 (Nat.lt_of_lt_of_eq (zlt rfl : 8 < 9) vl_119.symm) rfl ?_
                refine Zp.aload_n k_119_112 rfl ?_
                refine Zp.getR k_119_113 rfl (zlt rfl) m_0 r_0_5 ?_
                refine Zp.iload k_119_116 rfl ?_
                refine Zp.iload k_119_118 rfl ?_
                refine Zp.iload k_119_120 rfl ?_
                refine Zp.icmp_neN k_119_122 (by omega) (by omega) (fun c_122 => ?_) (fun c_122 => ?_)
                · refine Zp.iload k_119_135 rfl ?_
                  first | exact tl _ (by unfold drB drA; rw [if_pos (by omega)]) c_75 | exact tl _ (by unfold drB drA; rw [if_neg (by omega)]) c_75
                · refine Zp.iload k_119_125 rfl ?_
                  refine Zp.iconst (nI 1) k_119_127 (by decide) ?_
                  refine Zp.iaddN k_119_128 ?_
                  refine Zp.iload k_119_129 rfl ?_
                  refine Zp.iremN k_119_131 (by omega) (by omega) (by omega) ?_
                  refine Zp.goto k_119_132 ?_
                  first | exact tl _ (by unfold drB drA; rw [if_pos (by omega)]) c_75 | exact tl _ (by unfold drB drA; rw [if_neg (by omega)]) c_75
          
          refine Zm.go [some (.ref _), some (.int _), some (.int _), some (.int _), none, none, none, none, none] vl_119 rfl ?_
          refine Zp.iload_n k_119_0 rfl ?_
          refine Zp.iconst (nI 1) k_119_1 (by decide) ?_
          refine Zp.bipush (nI 60) k_119_2 (by decide) ?_
          refine Zp.calls3I vs_129 k_119_4 (Nat.le_of_ble_eq_true rfl) (Nat.le_of_ble_eq_true rfl) (c_isWithin (nI_toInt (by omega)) (nI_toInt (by omega)) (nI_toInt (by omega)) ⟨_, rfl, ?_⟩)
          refine Zp.if_eqB k_119_7 (fun c_7 => absurd c_7 (by omega)) (fun c_7 => ?_)
          refine Zp.iload_n k_119_10 rfl ?_
          refine Zp.iconst (nI 0) k_119_11 (by decide) ?_
          refine Zp.iconst (nI 1) k_119_12 (by decide) ?_
          refine Zp.calls3I vs_129 k_119_13 (Nat.le_of_ble_eq_true rfl) (Nat.le_of_ble_eq_true rfl) (c_isWithin (nI_toInt (by omega)) (nI_toInt (by omega)) (nI_toInt (by omega)) ⟨_, rfl, ?_⟩)
          refine Zp.if_neB k_119_16 (fun c_16 => ?_) (fun c_16 => absurd c_16 (by omega))
          refine Zp.aload_n k_119_21 rfl ?_
          refine Zp.getR k_119_22 rfl (zlt rfl) m_0 r_0_0 ?_
          refine Zp.getR k_119_25 rfl (zlt rfl) m_1 r_1_0 ?_
          refine Zp.getV k_119_28 rfl (zlt rfl) m_2 hp.1 ?_
          refine Zp.istore [some (.ref _), some (.int _), some (.int _), some (.int _), some (.int _), none, none, none, none] k_119_31 (Nat.lt_of_lt_of_eq (zlt rfl : 4 < 9) vl_119.symm) rfl ?_
          refine Zp.iload k_119_33 rfl ?_
          refine Zp.iconst (nI 2) k_119_35 (by decide) ?_
          refine Zp.icmp_geN k_119_36 (by omega) (by omega) (fun c_36 => ?_) (fun c_36 => absurd c_36 (by omega))
          refine Zp.aload_n k_119_42 rfl ?_
          refine Zp.getR k_119_43 rfl (zlt rfl) m_0 r_0_5 ?_
          refine Zp.aload_n k_119_46 rfl ?_
          refine Zp.getR k_119_47 rfl (zlt rfl) m_0 r_0_0 ?_
          refine Zp.getR k_119_50 rfl (zlt rfl) m_1 r_1_0 ?_
          refine Zp.callv1V v_55 k_119_53 m_31 (Nat.le_of_ble_eq_true rfl) (Nat.le_of_ble_eq_true rfl) (c_Soup_copyFrom sa_31 sa_2 (by omega) hp so (fun I2 hs2 f2 => ⟨rfl, ?_⟩))
          refine Zp.iload_n k_119_56 rfl ?_
          refine Zp.istore [some (.ref _), some (.int _), some (.int _), some (.int _), some (.int _), some (.int _), none, none, none] k_119_57 (Nat.lt_of_lt_of_eq (zlt rfl : 5 < 9) vl_119.symm) rfl ?_
          refine Zp.iconst (nI 0) k_119_59 (by decide) ?_
          refine Zp.istore [some (.ref _), some (.int _), some (.int _), some (.int _), some (.int _), some (.int _), some (.int _), none, none] k_119_60 (Nat.lt_of_lt_of_eq (zlt rfl : 6 < 9) vl_119.symm) rfl ?_
          exact loop n 0 I2 (by omega) hs2 (fun q h => f2 q (by omega) (by omega) (by omega))
        · obtain ⟨m3, ⟨mp, xp⟩, m4, ms1, ms2, ms3, mk0, mk1, mi0, mi1, mt, mb, mf, mr, mh⟩ := id pm
          have lcN : ∀ (v1 v2 v3 v4 v5 v6 v7 v8 : Value) (j : Nat) (u : Value), ([some v1, some v2, some v3, some v4, some v5, some v6, none, none] : List (Option Value))[j]? = some (some u) → ([some v1, some v2, some v3, some v4, some v5, some v6, some v7, some v8] : List (Option Value))[j]? = some (some u) := by
            intro v1 v2 v3 v4 v5 v6 v7 v8 j u hj
            match j, hj with
            | 0, hj => exact hj
            | 1, hj => exact hj
            | 2, hj => exact hj
            | 3, hj => exact hj
            | 4, hj => exact hj
            | 5, hj => exact hj
            | 6, hj => exact absurd hj (by simp)
            | 7, hj => exact absurd hj (by simp)
            | _ + 8, hj => exact absurd hj (by simp)
          have loop : ∀ k i (I1 : zI), i + k = n → Mp (I1 95) (drS (kS (aK A)) x i).1 → (∀ q, q ≠ 95 → I1 q = I q) → Zp G 219 42 [some (.ref 93), some (.int x), some (.int (nI n)), some (.int (nI c)), some (.int (drS (kS (aK A)) x i).2), some (.int (nI i)), none, none] [] I1 L Q := by
            intro k
            induction k with
            | zero =>
              intro i I1 hi mq1 f1
              have e : i = n := by omega
              subst e
              have hq1 := hq I1 L (pm.at f1) (fun q h => f1 q (by omega))
              refine Zp.iload k_219_42 rfl ?_
              refine Zp.iload_n k_219_44 rfl ?_
              refine Zp.icmp_geN k_219_45 (by omega) (by omega) (fun c_45 => ?_) (fun c_45 => absurd c_45 (by omega))
              refine Zp.iload_n k_219_138 rfl ?_
              refine Zp.if_neN k_219_139 (by omega) (fun c_139 => ?_) (fun c_139 => ?_)
              · refine Zp.aload_n k_219_152 rfl ?_
                refine Zp.callv0I v_170 k_219_153 m_93 (Nat.le_of_ble_eq_true rfl) (Nat.le_of_ble_eq_true rfl) (c_allHateM mq1 go ⟨_, rfl, ?_⟩)
                refine Zp.iret _ k_219_156 vr_219 rfl ?_
                first | (rw [if_pos c_139] at hq1; exact hq1) | (rw [if_neg c_139] at hq1; exact hq1)
              · refine Zp.aload_n k_219_142 rfl ?_
                refine Zp.getR k_219_143 rfl (zlt rfl) m_93 r_93_1 ?_
                refine Zp.bipush (nI 33) k_219_146 (by decide) ?_
                refine Zp.iald _ k_219_148 m_95 rfl (by omega) (zlt rfl) mq1.2.2.2.2.2.1 ?_
                refine Zp.goto k_219_149 ?_
                refine Zp.iret _ k_219_156 vr_219 rfl ?_
                first | (rw [if_pos c_139] at hq1; exact hq1) | (rw [if_neg c_139] at hq1; exact hq1)
            | succ k ih =>
              intro i I1 hi mq1 f1
              have m31 : I1 93 3 = nI (sn (kS (aK A))) := (congrFun (f1 93 (by decide)) 3).trans m3
              have g1 := drS_n (kS (aK A)) x i
              have ho1 := drS_o so x i
              have ho5 := ho1.2.2.2.2.1
              have la1 := drA_lt (n := sn (kS (aK A))) (drS (kS (aK A)) x i).2 (by omega)
              have lb1 := drB_lt (n := sn (kS (aK A))) (drS (kS (aK A)) x i).2 (by omega)
              have x1 : drN (grX (drS (kS (aK A)) x i).2) % sn (kS (aK A)) < sn (kS (aK A)) := la1
              have x2 : drN (grX (grX (drS (kS (aK A)) x i).2)) % sn (kS (aK A)) < sn (kS (aK A)) := Nat.mod_lt _ (by omega)
              have d1 := (drX_n (grX (drS (kS (aK A)) x i).2)).2
              have d2 := (drX_n (grX (grX (drS (kS (aK A)) x i).2))).2
              have e1' : ((grX (drS (kS (aK A)) x i).2 >>> (nI 16 &&& 31)) &&& nI 32767) = nI (drN (grX (drS (kS (aK A)) x i).2)) := (drX_n _).1
              have e2' : ((grX (grX (drS (kS (aK A)) x i).2) >>> (nI 16 &&& 31)) &&& nI 32767) = nI (drN (grX (grX (drS (kS (aK A)) x i).2))) := (drX_n _).1
              have ih1 := fun I2 => ih (i + 1) I2 (by omega)
              rw [dss] at ih1
              have tl : ∀ (b2 : Nat), b2 = drB (sn (kS (aK A))) (drS (kS (aK A)) x i).2 → Zp G 219 128 [some (.ref 93), some (.int x), some (.int (nI n)), some (.int (nI c)), some (.int (grX (grX (drS (kS (aK A)) x i).2))), some (.int (nI i)), some (.int (nI (drN (grX (drS (kS (aK A)) x i).2) % sn (kS (aK A))))), some (.int (nI (drN (grX (grX (drS (kS (aK A)) x i).2)) % sn (kS (aK A)))))] [.int (nI b2), .int (nI (drN (grX (drS (kS (aK A)) x i).2) % sn (kS (aK A)))), .ref 93] I1 L Q := by
                intro b2 hb2
                subst hb2
                have t2 : ∀ (I2 : zI) (v : Int32), Mp (I2 95) (if sset (drS (kS (aK A)) x i).1 = 0 then stS (drS (kS (aK A)) x i).1 (drA (sn (kS (aK A))) (drS (kS (aK A)) x i).2) (drB (sn (kS (aK A))) (drS (kS (aK A)) x i).2) else (drS (kS (aK A)) x i).1) → (∀ q, q ≠ 95 → I2 q = I q) → Zp G 219 131 [some (.ref 93), some (.int x), some (.int (nI n)), some (.int (nI c)), some (.int (grX (grX (drS (kS (aK A)) x i).2))), some (.int (nI i)), some (.int (nI (drN (grX (drS (kS (aK A)) x i).2) % sn (kS (aK A))))), some (.int (nI (drN (grX (grX (drS (kS (aK A)) x i).2)) % sn (kS (aK A)))))] [.int v] I2 L Q := by
                  intro I2 v m2 f2
                  refine Zp.pop k_219_131 rfl ?_
                  refine Zp.iinc (nI (_ + 1)) [some (.ref _), some (.int _), some (.int _), some (.int _), some (.int _), some (.int _), some (.int _), some (.int _)] k_219_132 rfl (nI_1 _) (Nat.lt_of_lt_of_eq (zlt rfl : 5 < 8) vl_219.symm) rfl ?_
                  refine Zp.goto k_219_135 ?_
                  exact Zp.locs _ (lcN _ _ _ _ _ _ _ _) (ih1 I2 m2 f2)
                refine Zp.callv2I v_168 k_219_128 m_93 (Nat.le_of_ble_eq_true rfl) (Nat.le_of_ble_eq_true rfl) (c_stirsOnM (a := drA (sn (kS (aK A))) (drS (kS (aK A)) x i).2) mq1 ho1 (by omega) (by omega) (by omega) (fun h9 => ⟨_, rfl, t2 I1 _ (by rw [if_neg (by omega)]; exact mq1) f1⟩) (fun h9 I2 mq2 f2 => ⟨_, rfl, t2 I2 _ (by rw [if_pos h9]; exact mq2) (fun q h => (f2.1 q h).trans (f1 q h))⟩))
                
              refine Zp.iload k_219_42 rfl ?_
              refine Zp.iload_n k_219_44 rfl ?_
              refine Zp.icmp_geN k_219_45 (by omega) (by omega) (fun c_45 => absurd c_45 (by omega)) (fun c_45 => ?_)
              refine Zp.iload k_219_48 rfl ?_
              refine Zp.ldcw (nI 1103515245) k_219_50 (by decide) ?_
              refine Zp.imul k_219_53 ?_
              refine Zp.sipush (nI 12345) k_219_54 (by decide) ?_
              refine Zp.iadd k_219_57 ?_
              refine Zp.istore [some (.ref _), some (.int _), some (.int _), some (.int _), some (.int _), some (.int _), none, none] k_219_58 (Nat.lt_of_lt_of_eq (zlt rfl : 4 < 8) vl_219.symm) rfl ?_
              refine Zp.iload k_219_60 rfl ?_
              refine Zp.bipush (nI 16) k_219_62 (by decide) ?_
              refine Zp.ishr k_219_64 ?_
              refine Zp.sipush (nI 32767) k_219_65 (by decide) ?_
              refine Zp.iand k_219_68 ?_
              rw [show ((drS (kS (aK A)) x i).2 * nI 1103515245 + nI 12345) = grX (drS (kS (aK A)) x i).2 from rfl, e1']
              refine Zp.aload_n k_219_69 rfl ?_
              refine Zp.getV k_219_70 rfl (zlt rfl) m_93 m31 ?_
              refine Zp.iremN k_219_73 (by omega) (by omega) (by omega) ?_
              refine Zp.istore [some (.ref _), some (.int _), some (.int _), some (.int _), some (.int _), some (.int _), some (.int _), none] k_219_74 (Nat.lt_of_lt_of_eq (zlt rfl : 6 < 8) vl_219.symm) rfl ?_
              refine Zp.iload k_219_76 rfl ?_
              refine Zp.ldcw (nI 1103515245) k_219_78 (by decide) ?_
              refine Zp.imul k_219_81 ?_
              refine Zp.sipush (nI 12345) k_219_82 (by decide) ?_
              refine Zp.iadd k_219_85 ?_
              refine Zp.istore [some (.ref _), some (.int _), some (.int _), some (.int _), some (.int _), some (.int _), some (.int _), none] k_219_86 (Nat.lt_of_lt_of_eq (zlt rfl : 4 < 8) vl_219.symm) rfl ?_
              refine Zp.iload k_219_88 rfl ?_
              refine Zp.bipush (nI 16) k_219_90 (by decide) ?_
              refine Zp.ishr k_219_92 ?_
              refine Zp.sipush (nI 32767) k_219_93 (by decide) ?_
              refine Zp.iand k_219_96 ?_
              rw [show (grX (drS (kS (aK A)) x i).2 * nI 1103515245 + nI 12345) = grX (grX (drS (kS (aK A)) x i).2) from rfl, e2']
              refine Zp.aload_n k_219_97 rfl ?_
              refine Zp.getV k_219_98 rfl (zlt rfl) m_93 m31 ?_
              refine Zp.iremN k_219_101 (by omega) (by omega) (by omega) ?_
              refine Zp.istore [some (.ref _), some (.int _), some (.int _), some (.int _), some (.int _), some (.int _), some (.int _), some (.int _)] k_219_102 (Nat.lt_of_lt_of_eq (zlt rfl : 7 < 8) vl_219.symm) rfl ?_
              refine Zp.aload_n k_219_104 rfl ?_
              refine Zp.iload k_219_105 rfl ?_
              refine Zp.iload k_219_107 rfl ?_
              refine Zp.iload k_219_109 rfl ?_
              refine Zp.icmp_neN k_219_111 (by omega) (by omega) (fun c_111 => ?_) (fun c_111 => ?_)
              · refine Zp.iload k_219_126 rfl ?_
                first | exact tl _ (by unfold drB drA; rw [if_pos c_111, c_111]) | exact tl _ (by unfold drB drA; rw [if_neg (by omega)])
              · refine Zp.iload k_219_114 rfl ?_
                refine Zp.iconst (nI 1) k_219_116 (by decide) ?_
                refine Zp.iaddN k_219_117 ?_
                refine Zp.aload_n k_219_118 rfl ?_
                refine Zp.getV k_219_119 rfl (zlt rfl) m_93 m31 ?_
                refine Zp.iremN k_219_122 (by omega) (by omega) (by omega) ?_
                refine Zp.goto k_219_123 ?_
                first | exact tl _ (by unfold drB drA; rw [if_pos c_111, c_111]) | exact tl _ (by unfold drB drA; rw [if_neg (by omega)])
          
          refine Zm.go [some (.ref _), some (.int _), some (.int _), some (.int _), none, none, none, none] vl_219 rfl ?_
          refine Zp.iload_n k_219_0 rfl ?_
          refine Zp.i2l k_219_1 ?_
          refine Zp.lconst (lN 1) k_219_2 (by decide) ?_
          refine Zp.ldc2 (lN 60) k_219_3 (by decide) ?_
          refine Zp.calls3I vs_131 k_219_6 (Nat.le_of_ble_eq_true rfl) (Nat.le_of_ble_eq_true rfl) (c_in (zi2n (by omega)) (lN_z (by decide)) (lN_z (by decide)) ⟨_, rfl, ?_⟩)
          refine Zp.if_eqB k_219_9 (fun c_9 => absurd c_9 (by omega)) (fun c_9 => ?_)
          refine Zp.iload_n k_219_12 rfl ?_
          refine Zp.calls1I vs_158 k_219_13 (Nat.le_of_ble_eq_true rfl) (Nat.le_of_ble_eq_true rfl) (c_isPartM ⟨_, rfl, ?_⟩)
          refine Zp.if_neB k_219_16 (fun c_16 => ?_) (fun c_16 => absurd c_16 (by omega))
          refine Zp.aload_n k_219_21 rfl ?_
          refine Zp.getV k_219_22 rfl (zlt rfl) m_93 m3 ?_
          refine Zp.iconst (nI 2) k_219_25 (by decide) ?_
          refine Zp.icmp_geN k_219_26 (by omega) (by omega) (fun c_26 => ?_) (fun c_26 => absurd c_26 (by omega))
          refine Zp.iload_n k_219_32 rfl ?_
          refine Zp.istore [some (.ref _), some (.int _), some (.int _), some (.int _), some (.int _), none, none, none] k_219_33 (Nat.lt_of_lt_of_eq (zlt rfl : 4 < 8) vl_219.symm) rfl ?_
          refine Zp.aload_n k_219_35 rfl ?_
          refine Zp.callv0V v_159 k_219_36 m_93 (Nat.le_of_ble_eq_true rfl) (Nat.le_of_ble_eq_true rfl) (c_goM pm ho (fun I2 pm2 mq xq s2 => ⟨rfl, ?_⟩))
          refine Zp.iconst (nI 0) k_219_39 (by decide) ?_
          refine Zp.istore [some (.ref _), some (.int _), some (.int _), some (.int _), some (.int _), some (.int _), none, none] k_219_40 (Nat.lt_of_lt_of_eq (zlt rfl : 5 < 8) vl_219.symm) rfl ?_
          exact loop n 0 I2 (by omega) mq s2
    · refine ⟨.int (-1), A, ho, fun I L Q pc hq => ?_, fun I L Q pm hq => ?_⟩
      · obtain ⟨⟨hp, lp, pp, ep⟩, hk, hi0, hi1, ht, hb, hf, hr, hh⟩ := id pc
        refine Zm.go [some (.ref _), some (.int _), some (.int _), some (.int _), none, none, none, none, none] vl_119 rfl ?_
        refine Zp.iload_n k_119_0 rfl ?_
        refine Zp.iconst (nI 1) k_119_1 (by decide) ?_
        refine Zp.bipush (nI 60) k_119_2 (by decide) ?_
        refine Zp.calls3I vs_129 k_119_4 (Nat.le_of_ble_eq_true rfl) (Nat.le_of_ble_eq_true rfl) (c_isWithin rfl (nI_toInt (by omega)) (nI_toInt (by omega)) ⟨_, rfl, ?_⟩)
        refine Zp.if_eqB k_119_7 (fun c_7 => absurd c_7 (by omega)) (fun c_7 => ?_)
        refine Zp.iload_n k_119_10 rfl ?_
        refine Zp.iconst (nI 0) k_119_11 (by decide) ?_
        refine Zp.iconst (nI 1) k_119_12 (by decide) ?_
        refine Zp.calls3I vs_129 k_119_13 (Nat.le_of_ble_eq_true rfl) (Nat.le_of_ble_eq_true rfl) (c_isWithin rfl (nI_toInt (by omega)) (nI_toInt (by omega)) ⟨_, rfl, ?_⟩)
        refine Zp.if_neB k_119_16 (fun c_16 => absurd c_16 (by omega)) (fun c_16 => ?_)
        refine Zp.iconst (-1) k_119_19 (by decide) ?_
        refine Zp.iret _ k_119_20 vr_119 rfl ?_
        exact hq I pc (FrC.rf I)
      · obtain ⟨m3, ⟨mp, xp⟩, m4, ms1, ms2, ms3, mk0, mk1, mi0, mi1, mt, mb, mf, mr, mh⟩ := id pm
        refine Zm.go [some (.ref _), some (.int _), some (.int _), some (.int _), none, none, none, none] vl_219 rfl ?_
        refine Zp.iload_n k_219_0 rfl ?_
        refine Zp.i2l k_219_1 ?_
        refine Zp.lconst (lN 1) k_219_2 (by decide) ?_
        refine Zp.ldc2 (lN 60) k_219_3 (by decide) ?_
        refine Zp.calls3I vs_131 k_219_6 (Nat.le_of_ble_eq_true rfl) (Nat.le_of_ble_eq_true rfl) (c_in (zi2l _) (lN_z (by decide)) (lN_z (by decide)) ⟨_, rfl, ?_⟩)
        refine Zp.if_eqB k_219_9 (fun c_9 => absurd c_9 (by omega)) (fun c_9 => ?_)
        refine Zp.iload_n k_219_12 rfl ?_
        refine Zp.calls1I vs_158 k_219_13 (Nat.le_of_ble_eq_true rfl) (Nat.le_of_ble_eq_true rfl) (c_isPartM ⟨_, rfl, ?_⟩)
        refine Zp.if_neB k_219_16 (fun c_16 => absurd c_16 (by omega)) (fun c_16 => ?_)
        refine Zp.iconst (-1) k_219_19 (by decide) ?_
        refine Zp.iret _ k_219_20 vr_219 rfl ?_
        first | exact hq I L pm (FrM.rf I) | exact hq I2 L pm2 (fun q hq => s2 q (by omega))
  · refine ⟨.int (-1), A, ho, fun I L Q pc hq => ?_, fun I L Q pm hq => ?_⟩
    · obtain ⟨⟨hp, lp, pp, ep⟩, hk, hi0, hi1, ht, hb, hf, hr, hh⟩ := id pc
      refine Zm.go [some (.ref _), some (.int _), some (.int _), some (.int _), none, none, none, none, none] vl_119 rfl ?_
      refine Zp.iload_n k_119_0 rfl ?_
      refine Zp.iconst (nI 1) k_119_1 (by decide) ?_
      refine Zp.bipush (nI 60) k_119_2 (by decide) ?_
      refine Zp.calls3I vs_129 k_119_4 (Nat.le_of_ble_eq_true rfl) (Nat.le_of_ble_eq_true rfl) (c_isWithin rfl (nI_toInt (by omega)) (nI_toInt (by omega)) ⟨_, rfl, ?_⟩)
      refine Zp.if_eqB k_119_7 (fun c_7 => ?_) (fun c_7 => absurd c_7 (by omega))
      refine Zp.iconst (-1) k_119_19 (by decide) ?_
      refine Zp.iret _ k_119_20 vr_119 rfl ?_
      exact hq I pc (FrC.rf I)
    · obtain ⟨m3, ⟨mp, xp⟩, m4, ms1, ms2, ms3, mk0, mk1, mi0, mi1, mt, mb, mf, mr, mh⟩ := id pm
      refine Zm.go [some (.ref _), some (.int _), some (.int _), some (.int _), none, none, none, none] vl_219 rfl ?_
      refine Zp.iload_n k_219_0 rfl ?_
      refine Zp.i2l k_219_1 ?_
      refine Zp.lconst (lN 1) k_219_2 (by decide) ?_
      refine Zp.ldc2 (lN 60) k_219_3 (by decide) ?_
      refine Zp.calls3I vs_131 k_219_6 (Nat.le_of_ble_eq_true rfl) (Nat.le_of_ble_eq_true rfl) (c_in (zi2l _) (lN_z (by decide)) (lN_z (by decide)) ⟨_, rfl, ?_⟩)
      refine Zp.if_eqB k_219_9 (fun c_9 => ?_) (fun c_9 => absurd c_9 (by omega))
      refine Zp.iconst (-1) k_219_19 (by decide) ?_
      refine Zp.iret _ k_219_20 vr_219 rfl ?_
      first | exact hq I L pm (FrM.rf I) | exact hq I2 L pm2 (fun q hq => s2 q (by omega))
end DRIFT
