/-! LUCK AND MEAN: the longs that both sides answer -/
def zBothL (G : zG) (mc mm : Nat) (av : List Value) (A : zQs) : Prop := ∃ (v : Int64) (A' : zQs), Ao A' ∧
  (∀ I L (Q : zP), PicC A I → (∀ I', PicC A' I' → FrC I I' → Q (some (.long v)) I' L) → Zm G mc (.ref 0 :: av) I L Q) ∧
  (∀ I L (Q : zP), PicM A I → (∀ I' L', PicM A' I' → FrM I I' → Q (some (.long v)) I' L') → Zm G mm (.ref 93 :: av) I L Q)
section LUCKL
variable {G : zG} {A : zQs} {x y z u : Int32}
theorem B_luckL (ho : Ao A) : zBothL G 113 217 [.int x, .int y, .int z, .int u] A := by
  obtain ⟨⟨so, sz, sst, lo, po, eo⟩, ok0, ok1, oi0, oi1, ot, ob, of_, or_, oh⟩ := id ho
  obtain ⟨o1, o2, o3, o4, o5, o6, o7⟩ := id so
  obtain ⟨p1, p2, p3⟩ := id lo
  obtain ⟨u1, u2⟩ := id po
  obtain ⟨e1, e2⟩ := id eo
  by_cases t : (0 ≤ x.toInt ∧ x.toInt ≤ 10) ∧ ((0 ≤ y.toInt ∧ y.toInt < (sn (kS (aK A)) : Int)) ∧ (0 ≤ z.toInt ∧ z.toInt < (sn (kS (aK A)) : Int)) ∧ ¬ y.toInt = z.toInt) ∧ 0 ≤ u.toInt ∧ u.toInt ≤ 1
  · obtain ⟨v, hv, rfl, ev⟩ := zin_nI (n := 11) t.1.1 (by omega)
    obtain ⟨a, ha, rfl, ea⟩ := zin_nI t.2.1.1.1 t.2.1.1.2
    obtain ⟨b, hb0, rfl, eb⟩ := zin_nI t.2.1.2.1.1 t.2.1.2.1.2
    obtain ⟨c, hc, rfl, ec⟩ := zin_nI (n := 2) t.2.2.1 (by omega)
    refine ⟨(lN (lvA (lvS wN (kS (aK A)) a b v (stp (kS (aK A)) a b 12)) (stp (kS (aK A)) a b 12) c)), A, ho, fun I L Q pc hq => ?_, fun I L Q pm hq => ?_⟩
    · obtain ⟨⟨hp, lp, pp, ep⟩, hk, hi0, hi1, ht, hb, hf, hr, hh⟩ := id pc
      refine Zm.go [some (.ref _), some (.int _), some (.int _), some (.int _), some (.int _)] vl_113 rfl ?_
      refine Zp.aload_n k_113_0 rfl ?_
      refine Zp.iload_n k_113_1 rfl ?_
      refine Zp.iload_n k_113_2 rfl ?_
      refine Zp.iload_n k_113_3 rfl ?_
      refine Zp.iload k_113_4 rfl ?_
      refine Zp.callv4I v_115 k_113_6 m_0 (Nat.le_of_ble_eq_true rfl) (Nat.le_of_ble_eq_true rfl) (c_asked pc ho ⟨_, rfl, ?_⟩)
      refine Zp.if_eqB k_113_9 (fun c_9 => (by first | exact absurd c_9 t | exact absurd t c_9)) (fun c_9 => ?_)
      refine Zp.aload_n k_113_12 rfl ?_
      refine Zp.iload_n k_113_13 rfl ?_
      refine Zp.iload_n k_113_14 rfl ?_
      refine Zp.iload_n k_113_15 rfl ?_
      refine Zp.iload k_113_16 rfl ?_
      refine Zp.iconst (nI 1) k_113_18 (by decide) ?_
      refine Zp.callv5L v_116 k_113_19 m_0 (Nat.le_of_ble_eq_true rfl) (Nat.le_of_ble_eq_true rfl) (c_byLove pc ho (by omega) ha hb0 hc (by decide) (fun I2 f2 => ⟨_, rfl, ?_⟩))
      refine Zp.goto k_113_22 ?_
      refine Zp.lret k_113_28 vr_113 ?_
      exact hq I2 (pc.try_ f2) (fun q h => f2 q (by omega))
    · obtain ⟨m3, ⟨mp, xp⟩, m4, ms1, ms2, ms3, mk0, mk1, mi0, mi1, mt, mb, mf, mr, mh⟩ := id pm
      refine Zm.go [some (.ref _), some (.int _), some (.int _), some (.int _), some (.int _)] vl_217 rfl ?_
      refine Zp.iload_n k_217_0 rfl ?_
      refine Zp.i2l k_217_1 ?_
      refine Zp.lconst (lN 0) k_217_2 (by decide) ?_
      refine Zp.ldc2 (lN 10) k_217_3 (by decide) ?_
      refine Zp.calls3I vs_131 k_217_6 (Nat.le_of_ble_eq_true rfl) (Nat.le_of_ble_eq_true rfl) (c_in (zi2n (by omega)) (lN_z (by decide)) (lN_z (by decide)) ⟨_, rfl, ?_⟩)
      refine Zp.if_eqB k_217_9 (fun c_9 => absurd c_9 (by omega)) (fun c_9 => ?_)
      refine Zp.aload_n k_217_12 rfl ?_
      refine Zp.iload_n k_217_13 rfl ?_
      refine Zp.iload_n k_217_14 rfl ?_
      refine Zp.callv2I v_156 k_217_15 m_93 (Nat.le_of_ble_eq_true rfl) (Nat.le_of_ble_eq_true rfl) (c_areTwoM m3 (by omega) ⟨_, rfl, ?_⟩)
      refine Zp.if_eqB k_217_18 (fun c_18 => (by first | exact absurd c_18 t.2.1 | exact absurd t.2.1 c_18)) (fun c_18 => ?_)
      refine Zp.iload k_217_21 rfl ?_
      refine Zp.calls1I vs_158 k_217_23 (Nat.le_of_ble_eq_true rfl) (Nat.le_of_ble_eq_true rfl) (c_isPartM ⟨_, rfl, ?_⟩)
      refine Zp.if_neB k_217_26 (fun c_26 => ?_) (fun c_26 => absurd c_26 (by omega))
      refine Zp.aload_n k_217_33 rfl ?_
      refine Zp.iload_n k_217_34 rfl ?_
      refine Zp.iload_n k_217_35 rfl ?_
      refine Zp.iload_n k_217_36 rfl ?_
      refine Zp.callv3V v_216 k_217_37 m_93 (Nat.le_of_ble_eq_true rfl) (Nat.le_of_ble_eq_true rfl) (c_findLoveM pm ho (by omega) ha hb0 (fun I2 L2 t0 pm2 f2 ht0 ht1 h28 h29 h30 => ⟨rfl, ?_⟩))
      refine Zp.aload_n k_217_40 rfl ?_
      refine Zp.getLV k_217_41 rfl (zlt rfl) m_93 h30 ?_
      refine Zp.aload_n k_217_44 rfl ?_
      refine Zp.getLV k_217_45 rfl (zlt rfl) m_93 h28 ?_
      refine Zp.iload k_217_48 rfl ?_
      refine Zp.calls3L vs_214 k_217_50 (Nat.le_of_ble_eq_true rfl) (Nat.le_of_ble_eq_true rfl) (c_told (Nat.lt_of_le_of_lt (Nat.mul_le_mul_right _ (lvT_le wN_le so a b v (by omega) (stp_le _ a b 12))) (by rw [Nat.mul_assoc, Nat.mul_comm (10 ^ _)]; omega)) (by rw [Nat.mul_comm]; omega) ht0 hc ⟨_, rfl, ?_⟩)
      refine Zp.lret k_217_53 vr_217 ?_
      exact hq I2 _ pm2 f2
  · refine ⟨(-1), A, ho, fun I L Q pc hq => ?_, fun I L Q pm hq => ?_⟩
    · obtain ⟨⟨hp, lp, pp, ep⟩, hk, hi0, hi1, ht, hb, hf, hr, hh⟩ := id pc
      refine Zm.go [some (.ref _), some (.int _), some (.int _), some (.int _), some (.int _)] vl_113 rfl ?_
      refine Zp.aload_n k_113_0 rfl ?_
      refine Zp.iload_n k_113_1 rfl ?_
      refine Zp.iload_n k_113_2 rfl ?_
      refine Zp.iload_n k_113_3 rfl ?_
      refine Zp.iload k_113_4 rfl ?_
      refine Zp.callv4I v_115 k_113_6 m_0 (Nat.le_of_ble_eq_true rfl) (Nat.le_of_ble_eq_true rfl) (c_asked pc ho ⟨_, rfl, ?_⟩)
      refine Zp.if_eqB k_113_9 (fun c_9 => ?_) (fun c_9 => (by first | exact absurd c_9 t | exact absurd t c_9))
      refine Zp.ldc2 (-1) k_113_25 (by decide) ?_
      refine Zp.lret k_113_28 vr_113 ?_
      exact hq I pc (FrC.rf I)
    · obtain ⟨m3, ⟨mp, xp⟩, m4, ms1, ms2, ms3, mk0, mk1, mi0, mi1, mt, mb, mf, mr, mh⟩ := id pm
      refine Zm.go [some (.ref _), some (.int _), some (.int _), some (.int _), some (.int _)] vl_217 rfl ?_
      refine Zp.iload_n k_217_0 rfl ?_
      refine Zp.i2l k_217_1 ?_
      refine Zp.lconst (lN 0) k_217_2 (by decide) ?_
      refine Zp.ldc2 (lN 10) k_217_3 (by decide) ?_
      refine Zp.calls3I vs_131 k_217_6 (Nat.le_of_ble_eq_true rfl) (Nat.le_of_ble_eq_true rfl) (c_in (zi2l _) (lN_z (by decide)) (lN_z (by decide)) ⟨_, rfl, ?_⟩)
      refine Zp.if_eqB k_217_9 (fun c_9 => ?_) (fun c_9 => ?_)
      · refine Zp.ldc2 (-1) k_217_29 (by decide) ?_
        refine Zp.lret k_217_32 vr_217 ?_
        first | exact hq I L pm (FrM.rf I) | exact hq I2 L pm2 (fun q hq => s2 q (by omega))
      · refine Zp.aload_n k_217_12 rfl ?_
        refine Zp.iload_n k_217_13 rfl ?_
        refine Zp.iload_n k_217_14 rfl ?_
        refine Zp.callv2I v_156 k_217_15 m_93 (Nat.le_of_ble_eq_true rfl) (Nat.le_of_ble_eq_true rfl) (c_areTwoM m3 (by omega) ⟨_, rfl, ?_⟩)
        refine Zp.if_eqB k_217_18 (fun c_18 => ?_) (fun c_18 => ?_)
        · refine Zp.ldc2 (-1) k_217_29 (by decide) ?_
          refine Zp.lret k_217_32 vr_217 ?_
          first | exact hq I L pm (FrM.rf I) | exact hq I2 L pm2 (fun q hq => s2 q (by omega))
        · refine Zp.iload k_217_21 rfl ?_
          refine Zp.calls1I vs_158 k_217_23 (Nat.le_of_ble_eq_true rfl) (Nat.le_of_ble_eq_true rfl) (c_isPartM ⟨_, rfl, ?_⟩)
          refine Zp.if_neB k_217_26 (fun c_26 => ?_) (fun c_26 => ?_)
          · exact absurd ⟨⟨by omega, by omega⟩, c_18, by omega⟩ t
          · refine Zp.ldc2 (-1) k_217_29 (by decide) ?_
            refine Zp.lret k_217_32 vr_217 ?_
            first | exact hq I L pm (FrM.rf I) | exact hq I2 L pm2 (fun q hq => s2 q (by omega))
theorem B_meanL (ho : Ao A) : zBothL G 114 218 [.int x, .int y, .int z, .int u] A := by
  obtain ⟨⟨so, sz, sst, lo, po, eo⟩, ok0, ok1, oi0, oi1, ot, ob, of_, or_, oh⟩ := id ho
  obtain ⟨o1, o2, o3, o4, o5, o6, o7⟩ := id so
  obtain ⟨p1, p2, p3⟩ := id lo
  obtain ⟨u1, u2⟩ := id po
  obtain ⟨e1, e2⟩ := id eo
  by_cases t : (0 ≤ x.toInt ∧ x.toInt ≤ 10) ∧ ((0 ≤ y.toInt ∧ y.toInt < (sn (kS (aK A)) : Int)) ∧ (0 ≤ z.toInt ∧ z.toInt < (sn (kS (aK A)) : Int)) ∧ ¬ y.toInt = z.toInt) ∧ 0 ≤ u.toInt ∧ u.toInt ≤ 1
  · obtain ⟨v, hv, rfl, ev⟩ := zin_nI (n := 11) t.1.1 (by omega)
    obtain ⟨a, ha, rfl, ea⟩ := zin_nI t.2.1.1.1 t.2.1.1.2
    obtain ⟨b, hb0, rfl, eb⟩ := zin_nI t.2.1.2.1.1 t.2.1.2.1.2
    obtain ⟨c, hc, rfl, ec⟩ := zin_nI (n := 2) t.2.2.1 (by omega)
    refine ⟨(lN (lvA (lvS wD (kS (aK A)) a b v (stp (kS (aK A)) a b 12)) (stp (kS (aK A)) a b 12) c)), A, ho, fun I L Q pc hq => ?_, fun I L Q pm hq => ?_⟩
    · obtain ⟨⟨hp, lp, pp, ep⟩, hk, hi0, hi1, ht, hb, hf, hr, hh⟩ := id pc
      refine Zm.go [some (.ref _), some (.int _), some (.int _), some (.int _), some (.int _)] vl_114 rfl ?_
      refine Zp.aload_n k_114_0 rfl ?_
      refine Zp.iload_n k_114_1 rfl ?_
      refine Zp.iload_n k_114_2 rfl ?_
      refine Zp.iload_n k_114_3 rfl ?_
      refine Zp.iload k_114_4 rfl ?_
      refine Zp.callv4I v_115 k_114_6 m_0 (Nat.le_of_ble_eq_true rfl) (Nat.le_of_ble_eq_true rfl) (c_asked pc ho ⟨_, rfl, ?_⟩)
      refine Zp.if_eqB k_114_9 (fun c_9 => (by first | exact absurd c_9 t | exact absurd t c_9)) (fun c_9 => ?_)
      refine Zp.aload_n k_114_12 rfl ?_
      refine Zp.iload_n k_114_13 rfl ?_
      refine Zp.iload_n k_114_14 rfl ?_
      refine Zp.iload_n k_114_15 rfl ?_
      refine Zp.iload k_114_16 rfl ?_
      refine Zp.iconst (nI 0) k_114_18 (by decide) ?_
      refine Zp.callv5L v_116 k_114_19 m_0 (Nat.le_of_ble_eq_true rfl) (Nat.le_of_ble_eq_true rfl) (c_byLove pc ho (by omega) ha hb0 hc (by decide) (fun I2 f2 => ⟨_, rfl, ?_⟩))
      refine Zp.goto k_114_22 ?_
      refine Zp.lret k_114_28 vr_114 ?_
      exact hq I2 (pc.try_ f2) (fun q h => f2 q (by omega))
    · obtain ⟨m3, ⟨mp, xp⟩, m4, ms1, ms2, ms3, mk0, mk1, mi0, mi1, mt, mb, mf, mr, mh⟩ := id pm
      refine Zm.go [some (.ref _), some (.int _), some (.int _), some (.int _), some (.int _)] vl_218 rfl ?_
      refine Zp.iload_n k_218_0 rfl ?_
      refine Zp.i2l k_218_1 ?_
      refine Zp.lconst (lN 0) k_218_2 (by decide) ?_
      refine Zp.ldc2 (lN 10) k_218_3 (by decide) ?_
      refine Zp.calls3I vs_131 k_218_6 (Nat.le_of_ble_eq_true rfl) (Nat.le_of_ble_eq_true rfl) (c_in (zi2n (by omega)) (lN_z (by decide)) (lN_z (by decide)) ⟨_, rfl, ?_⟩)
      refine Zp.if_eqB k_218_9 (fun c_9 => absurd c_9 (by omega)) (fun c_9 => ?_)
      refine Zp.aload_n k_218_12 rfl ?_
      refine Zp.iload_n k_218_13 rfl ?_
      refine Zp.iload_n k_218_14 rfl ?_
      refine Zp.callv2I v_156 k_218_15 m_93 (Nat.le_of_ble_eq_true rfl) (Nat.le_of_ble_eq_true rfl) (c_areTwoM m3 (by omega) ⟨_, rfl, ?_⟩)
      refine Zp.if_eqB k_218_18 (fun c_18 => (by first | exact absurd c_18 t.2.1 | exact absurd t.2.1 c_18)) (fun c_18 => ?_)
      refine Zp.iload k_218_21 rfl ?_
      refine Zp.calls1I vs_158 k_218_23 (Nat.le_of_ble_eq_true rfl) (Nat.le_of_ble_eq_true rfl) (c_isPartM ⟨_, rfl, ?_⟩)
      refine Zp.if_neB k_218_26 (fun c_26 => ?_) (fun c_26 => absurd c_26 (by omega))
      refine Zp.aload_n k_218_33 rfl ?_
      refine Zp.iload_n k_218_34 rfl ?_
      refine Zp.iload_n k_218_35 rfl ?_
      refine Zp.iload_n k_218_36 rfl ?_
      refine Zp.callv3V v_216 k_218_37 m_93 (Nat.le_of_ble_eq_true rfl) (Nat.le_of_ble_eq_true rfl) (c_findLoveM pm ho (by omega) ha hb0 (fun I2 L2 t0 pm2 f2 ht0 ht1 h28 h29 h30 => ⟨rfl, ?_⟩))
      refine Zp.aload_n k_218_40 rfl ?_
      refine Zp.getLV k_218_41 rfl (zlt rfl) m_93 h29 ?_
      refine Zp.aload_n k_218_44 rfl ?_
      refine Zp.getLV k_218_45 rfl (zlt rfl) m_93 h28 ?_
      refine Zp.iload k_218_48 rfl ?_
      refine Zp.calls3L vs_214 k_218_50 (Nat.le_of_ble_eq_true rfl) (Nat.le_of_ble_eq_true rfl) (c_told (Nat.lt_of_le_of_lt (Nat.mul_le_mul_right _ (lvT_le wD_le so a b v (by omega) (stp_le _ a b 12))) (by rw [Nat.mul_assoc, Nat.mul_comm (10 ^ _)]; omega)) (by rw [Nat.mul_comm]; omega) ht0 hc ⟨_, rfl, ?_⟩)
      refine Zp.lret k_218_53 vr_218 ?_
      exact hq I2 _ pm2 f2
  · refine ⟨(-1), A, ho, fun I L Q pc hq => ?_, fun I L Q pm hq => ?_⟩
    · obtain ⟨⟨hp, lp, pp, ep⟩, hk, hi0, hi1, ht, hb, hf, hr, hh⟩ := id pc
      refine Zm.go [some (.ref _), some (.int _), some (.int _), some (.int _), some (.int _)] vl_114 rfl ?_
      refine Zp.aload_n k_114_0 rfl ?_
      refine Zp.iload_n k_114_1 rfl ?_
      refine Zp.iload_n k_114_2 rfl ?_
      refine Zp.iload_n k_114_3 rfl ?_
      refine Zp.iload k_114_4 rfl ?_
      refine Zp.callv4I v_115 k_114_6 m_0 (Nat.le_of_ble_eq_true rfl) (Nat.le_of_ble_eq_true rfl) (c_asked pc ho ⟨_, rfl, ?_⟩)
      refine Zp.if_eqB k_114_9 (fun c_9 => ?_) (fun c_9 => (by first | exact absurd c_9 t | exact absurd t c_9))
      refine Zp.ldc2 (-1) k_114_25 (by decide) ?_
      refine Zp.lret k_114_28 vr_114 ?_
      exact hq I pc (FrC.rf I)
    · obtain ⟨m3, ⟨mp, xp⟩, m4, ms1, ms2, ms3, mk0, mk1, mi0, mi1, mt, mb, mf, mr, mh⟩ := id pm
      refine Zm.go [some (.ref _), some (.int _), some (.int _), some (.int _), some (.int _)] vl_218 rfl ?_
      refine Zp.iload_n k_218_0 rfl ?_
      refine Zp.i2l k_218_1 ?_
      refine Zp.lconst (lN 0) k_218_2 (by decide) ?_
      refine Zp.ldc2 (lN 10) k_218_3 (by decide) ?_
      refine Zp.calls3I vs_131 k_218_6 (Nat.le_of_ble_eq_true rfl) (Nat.le_of_ble_eq_true rfl) (c_in (zi2l _) (lN_z (by decide)) (lN_z (by decide)) ⟨_, rfl, ?_⟩)
      refine Zp.if_eqB k_218_9 (fun c_9 => ?_) (fun c_9 => ?_)
      · refine Zp.ldc2 (-1) k_218_29 (by decide) ?_
        refine Zp.lret k_218_32 vr_218 ?_
        first | exact hq I L pm (FrM.rf I) | exact hq I2 L pm2 (fun q hq => s2 q (by omega))
      · refine Zp.aload_n k_218_12 rfl ?_
        refine Zp.iload_n k_218_13 rfl ?_
        refine Zp.iload_n k_218_14 rfl ?_
        refine Zp.callv2I v_156 k_218_15 m_93 (Nat.le_of_ble_eq_true rfl) (Nat.le_of_ble_eq_true rfl) (c_areTwoM m3 (by omega) ⟨_, rfl, ?_⟩)
        refine Zp.if_eqB k_218_18 (fun c_18 => ?_) (fun c_18 => ?_)
        · refine Zp.ldc2 (-1) k_218_29 (by decide) ?_
          refine Zp.lret k_218_32 vr_218 ?_
          first | exact hq I L pm (FrM.rf I) | exact hq I2 L pm2 (fun q hq => s2 q (by omega))
        · refine Zp.iload k_218_21 rfl ?_
          refine Zp.calls1I vs_158 k_218_23 (Nat.le_of_ble_eq_true rfl) (Nat.le_of_ble_eq_true rfl) (c_isPartM ⟨_, rfl, ?_⟩)
          refine Zp.if_neB k_218_26 (fun c_26 => ?_) (fun c_26 => ?_)
          · exact absurd ⟨⟨by omega, by omega⟩, c_18, by omega⟩ t
          · refine Zp.ldc2 (-1) k_218_29 (by decide) ?_
            refine Zp.lret k_218_32 vr_218 ?_
            first | exact hq I L pm (FrM.rf I) | exact hq I2 L pm2 (fun q hq => s2 q (by omega))
end LUCKL
