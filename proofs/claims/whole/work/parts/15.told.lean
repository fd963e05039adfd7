/-! WHAT IS TOLD AND CHANGED: both sides answer alike -/
def wT (A : zQs) (t : Nat × (Nat → Nat)) : zQs := (aK A, a0 A, a1 A, ak0 A, ak1 A, t, aF A, aR A, aH A)
theorem PicC.tape {A : zQs} {I I' : zI} {t : Nat × (Nat → Nat)} (h : PicC A I) (h1 : I' 29 1 = nI t.1) (h2 : ∀ i, i < t.1 → I' 30 i = nI (t.2 i)) (e : ∀ q, q ≤ 13 ∨ (59 ≤ q ∧ q ≤ 92) → I' q = I q) : PicC (wT A t) I' := by
  obtain ⟨a1, a2, a3, a4, a5, a6, a7, a8, a9⟩ := h
  refine ⟨a1.fr fun q a b => e q (by omega), by rw [e 0 (by omega)]; exact a2, fun c => (a3 c).fr fun q a b => e q (by omega), fun c => (a4 c).fr fun q a b => e q (by omega), h1, h2, by rw [e 0 (by omega)]; exact a7, by rw [e 0 (by omega)]; exact a8, fun k hk => ?_⟩
  have := a9 k hk
  unfold Hc at this ⊢
  show (_ → I' _ _ = -1) ∧ _
  rw [e (85 + 2 * k) (by omega), e (86 + 2 * k) (by omega)]
  exact this
theorem PicM.tape {A : zQs} {I I' : zI} {t : Nat × (Nat → Nat)} (h : PicM A I) (h1 : I' 93 18 = nI t.1) (h2 : ∀ i, i < t.1 → I' 104 i = nI (t.2 i)) (e3 : ∀ j, j ≠ 18 → I' 93 j = I 93 j) (e : ∀ q, 94 ≤ q → q ≠ 104 → I' q = I q) : PicM (wT A t) I' := by
  obtain ⟨b1, b2, b3, b4, b5, b6, b7, b8, b9, b10, b11, b12, b13, b14, b15⟩ := h
  refine ⟨(e3 3 (by decide)).trans b1, by rw [e 94 (by omega) (by omega)]; exact b2, (e3 4 (by decide)).trans b3, by rw [e 97 (by omega) (by omega)]; exact b4, by rw [e 98 (by omega) (by omega)]; exact b5, by rw [e 99 (by omega) (by omega)]; exact b6, by rw [e 96 (by omega) (by omega)]; exact b7, by rw [e 96 (by omega) (by omega)]; exact b8, by rw [e 94 (by omega) (by omega)]; exact b9, by rw [e 94 (by omega) (by omega)]; exact b10, h1, h2, (e3 23 (by decide)).trans b13, (e3 34 (by decide)).trans b14, fun k hk => ?_⟩
  have := b15 k hk
  unfold Hm at this ⊢
  rw [e 107 (by omega) (by omega), e 108 (by omega) (by omega), e 109 (by omega) (by omega)]
  exact this
theorem Ao.tape {A : zQs} {t : Nat × (Nat → Nat)} (ho : Ao A) (h1 : t.1 ≤ 160) (h2 : ∀ i, i < t.1 → t.2 i < 128) : Ao (wT A t) := ⟨ho.1, ho.2.1, ho.2.2.1, ho.2.2.2.1, ho.2.2.2.2.1, h1, h2, ho.2.2.2.2.2.2.2⟩
theorem zby {c : Nat} (h : c < 128) : (nI c).toInt8.toInt32 = nI c := lg_i2b_small (by rw [nI_toInt (by omega)]; omega) (by rw [nI_toInt (by omega)]; omega)
section TOLD
variable {G : zG} {A : zQs} {x y z : Int32}
theorem B_feed (ho : Ao A) : zBoth G 74 135 [.int x] A := by
  obtain ⟨⟨so, sz, sst, lo, po, eo⟩, ok0, ok1, oi0, oi1, ot, ob, of_, or_, oh⟩ := id ho
  obtain ⟨o1, o2, o3, o4, o5, o6, o7⟩ := id so
  obtain ⟨p1, p2, p3⟩ := id lo
  obtain ⟨u1, u2⟩ := id po
  obtain ⟨e1, e2⟩ := id eo
  by_cases v : 0 ≤ x.toInt ∧ x.toInt ≤ 127
  · obtain ⟨c, hc, rfl, ec⟩ := zin_nI (n := 128) v.1 (by omega)
    by_cases w : (aT A).1 = 160
    · refine ⟨.int (-3), A, ho, fun I L Q pc hq => ?_, fun I L Q pm hq => ?_⟩
      · obtain ⟨⟨hp, lp, pp, ep⟩, hk, hi0, hi1, ht, hb, hf, hr, hh⟩ := id pc
        refine Zm.go [some (.ref _), some (.int _)] vl_74 rfl ?_
        refine Zp.iload_n k_74_0 rfl ?_
        refine Zp.iconst (nI 0) k_74_1 (by decide) ?_
        refine Zp.bipush (nI 127) k_74_2 (by decide) ?_
        refine Zp.calls3I vs_129 k_74_4 (Nat.le_of_ble_eq_true rfl) (Nat.le_of_ble_eq_true rfl) (c_isWithin (nI_toInt (by omega)) (nI_toInt (by omega)) (nI_toInt (by omega)) ⟨_, rfl, ?_⟩)
        refine Zp.if_neB k_74_7 (fun c_7 => ?_) (fun c_7 => absurd c_7 (by omega))
        refine Zp.aload_n k_74_12 rfl ?_
        refine Zp.getR k_74_13 rfl (zlt rfl) m_0 r_0_4 ?_
        refine Zp.getV k_74_16 rfl (zlt rfl) m_29 ht ?_
        refine Zp.sipush (nI 160) k_74_19 (by decide) ?_
        refine Zp.icmp_ltN k_74_22 (by omega) (by omega) (fun c_22 => absurd c_22 (by omega)) (fun c_22 => ?_)
        refine Zp.bipush (-3) k_74_25 (by decide) ?_
        refine Zp.iret _ k_74_27 vr_74 rfl ?_
        exact hq I pc (FrC.rf I)
      · obtain ⟨m3, ⟨mp, xp⟩, m4, ms1, ms2, ms3, mk0, mk1, mi0, mi1, mt, mb, mf, mr, mh⟩ := id pm
        refine Zm.go [some (.ref _), some (.int _)] vl_135 rfl ?_
        refine Zp.iload_n k_135_0 rfl ?_
        refine Zp.i2l k_135_1 ?_
        refine Zp.lconst (lN 0) k_135_2 (by decide) ?_
        refine Zp.ldc2 (lN 127) k_135_3 (by decide) ?_
        refine Zp.calls3I vs_131 k_135_6 (Nat.le_of_ble_eq_true rfl) (Nat.le_of_ble_eq_true rfl) (c_in (zi2n (by omega)) (lN_z (by decide)) (lN_z (by decide)) ⟨_, rfl, ?_⟩)
        refine Zp.if_neB k_135_9 (fun c_9 => ?_) (fun c_9 => absurd c_9 (by omega))
        refine Zp.aload_n k_135_14 rfl ?_
        refine Zp.getV k_135_15 rfl (zlt rfl) m_93 mt ?_
        refine Zp.sipush (nI 160) k_135_18 (by decide) ?_
        refine Zp.icmp_neN k_135_21 (by omega) (by omega) (fun c_21 => absurd c_21 (by omega)) (fun c_21 => ?_)
        refine Zp.bipush (-3) k_135_24 (by decide) ?_
        refine Zp.iret _ k_135_26 vr_135 rfl ?_
        first | exact hq I L pm (FrM.rf I) | exact hq I2 L pm2 (fun q hq => s2 q (by omega))
    · refine ⟨.int (nI ((aT A).1 + 1)), wT A ((aT A).1 + 1, va_up (aT A).2 (aT A).1 c), ho.tape (by show (aT A).1 + 1 ≤ 160; omega) (fun i hi => ?_), fun I L Q pc hq => ?_, fun I L Q pm hq => ?_⟩
      · show va_up (aT A).2 (aT A).1 c i < 128
        have hi1 : i < (aT A).1 + 1 := hi
        by_cases q : i = (aT A).1
        · subst q; rw [va_up_s]; omega
        · rw [va_up_n _ _ q]; exact ob i (by omega)
      · obtain ⟨⟨hp, lp, pp, ep⟩, hk, hi0, hi1, ht, hb, hf, hr, hh⟩ := id pc
        refine Zm.go [some (.ref _), some (.int _)] vl_74 rfl ?_
        refine Zp.iload_n k_74_0 rfl ?_
        refine Zp.iconst (nI 0) k_74_1 (by decide) ?_
        refine Zp.bipush (nI 127) k_74_2 (by decide) ?_
        refine Zp.calls3I vs_129 k_74_4 (Nat.le_of_ble_eq_true rfl) (Nat.le_of_ble_eq_true rfl) (c_isWithin (nI_toInt (by omega)) (nI_toInt (by omega)) (nI_toInt (by omega)) ⟨_, rfl, ?_⟩)
        refine Zp.if_neB k_74_7 (fun c_7 => ?_) (fun c_7 => absurd c_7 (by omega))
        refine Zp.aload_n k_74_12 rfl ?_
        refine Zp.getR k_74_13 rfl (zlt rfl) m_0 r_0_4 ?_
        refine Zp.getV k_74_16 rfl (zlt rfl) m_29 (by first | exact ht | exact zpu_r (by omega) (ht)) ?_
        refine Zp.sipush (nI 160) k_74_19 (by decide) ?_
        refine Zp.icmp_ltN k_74_22 (by omega) (by omega) (fun c_22 => ?_) (fun c_22 => absurd c_22 (by omega))
        refine Zp.aload_n k_74_28 rfl ?_
        refine Zp.getR k_74_29 rfl (zlt rfl) m_0 r_0_4 ?_
        refine Zp.getR k_74_32 rfl (zlt rfl) m_29 r_29_0 ?_
        refine Zp.aload_n k_74_35 rfl ?_
        refine Zp.getR k_74_36 rfl (zlt rfl) m_0 r_0_4 ?_
        refine Zp.getV k_74_39 rfl (zlt rfl) m_29 (by first | exact ht | exact zpu_r (by omega) (ht)) ?_
        refine Zp.iload_n k_74_42 rfl ?_
        refine Zp.i2b k_74_43 ?_
        refine Zp.bast _ k_74_44 m_30 rfl (by omega) (zlt rfl) ?_
        refine Zp.aload_n k_74_45 rfl ?_
        refine Zp.getR k_74_46 rfl (zlt rfl) m_0 r_0_4 ?_
        refine Zp.dup k_74_49 rfl ?_
        refine Zp.getV k_74_50 rfl (zlt rfl) m_29 (by first | exact ht | exact zpu_r (by omega) (ht)) ?_
        refine Zp.iconst (nI 1) k_74_53 (by decide) ?_
        refine Zp.iaddN k_74_54 ?_
        refine Zp.putI k_74_55 rfl (zlt rfl) m_29 ?_
        refine Zp.aload_n k_74_58 rfl ?_
        refine Zp.getR k_74_59 rfl (zlt rfl) m_0 r_0_4 ?_
        refine Zp.getV k_74_62 rfl (zlt rfl) m_29 (zpu_s _ _ _ _) ?_
        refine Zp.iret _ k_74_65 vr_74 rfl ?_
        refine hq _ (pc.tape (zpu_s _ _ _ _) (fun i hi => ?_) (fun q h => by rw [zpu_q _ _ _ (by omega), zpu_q _ _ _ (by omega)])) (fun q h => by rw [zpu_q _ _ _ (by omega), zpu_q _ _ _ (by omega)])
        rw [zpu_q _ _ _ (by decide), zby hc, zby hc]
        show _ = nI (va_up (aT A).2 (aT A).1 c i)
        have hi1 : i < (aT A).1 + 1 := hi
        by_cases q : i = (aT A).1
        · subst q; rw [zpu_s, va_up_s]
        · rw [zpu_k _ _ _ q, va_up_n _ _ q]; exact hb i (by omega)
      · obtain ⟨m3, ⟨mp, xp⟩, m4, ms1, ms2, ms3, mk0, mk1, mi0, mi1, mt, mb, mf, mr, mh⟩ := id pm
        refine Zm.go [some (.ref _), some (.int _)] vl_135 rfl ?_
        refine Zp.iload_n k_135_0 rfl ?_
        refine Zp.i2l k_135_1 ?_
        refine Zp.lconst (lN 0) k_135_2 (by decide) ?_
        refine Zp.ldc2 (lN 127) k_135_3 (by decide) ?_
        refine Zp.calls3I vs_131 k_135_6 (Nat.le_of_ble_eq_true rfl) (Nat.le_of_ble_eq_true rfl) (c_in (zi2n (by omega)) (lN_z (by decide)) (lN_z (by decide)) ⟨_, rfl, ?_⟩)
        refine Zp.if_neB k_135_9 (fun c_9 => ?_) (fun c_9 => absurd c_9 (by omega))
        refine Zp.aload_n k_135_14 rfl ?_
        refine Zp.getV k_135_15 rfl (zlt rfl) m_93 (by first | exact mt | exact zpu_r (by omega) (mt)) ?_
        refine Zp.sipush (nI 160) k_135_18 (by decide) ?_
        refine Zp.icmp_neN k_135_21 (by omega) (by omega) (fun c_21 => ?_) (fun c_21 => (by first | exact absurd c_21 w | exact absurd w c_21))
        refine Zp.aload_n k_135_27 rfl ?_
        refine Zp.getR k_135_28 rfl (zlt rfl) m_93 r_93_17 ?_
        refine Zp.aload_n k_135_31 rfl ?_
        refine Zp.getV k_135_32 rfl (zlt rfl) m_93 (by first | exact mt | exact zpu_r (by omega) (mt)) ?_
        refine Zp.iload_n k_135_35 rfl ?_
        refine Zp.iast _ k_135_36 m_104 rfl (by omega) (zlt rfl) ?_
        refine Zp.aload_n k_135_37 rfl ?_
        refine Zp.dup k_135_38 rfl ?_
        refine Zp.getV k_135_39 rfl (zlt rfl) m_93 (by first | exact mt | exact zpu_r (by omega) (mt)) ?_
        refine Zp.iconst (nI 1) k_135_42 (by decide) ?_
        refine Zp.iaddN k_135_43 ?_
        refine Zp.putI k_135_44 rfl (zlt rfl) m_93 ?_
        refine Zp.aload_n k_135_47 rfl ?_
        refine Zp.getV k_135_48 rfl (zlt rfl) m_93 (zpu_s _ _ _ _) ?_
        refine Zp.iret _ k_135_51 vr_135 rfl ?_
        refine hq _ _ (pm.tape (zpu_s _ _ _ _) (fun i hi => ?_) (fun j h => by rw [zpu_k _ _ _ h, zpu_q _ _ _ (by decide)]) (fun q h h2 => by rw [zpu_q _ _ _ (by omega), zpu_q _ _ _ h2])) (fun q h => by rw [zpu_q _ _ _ (by omega), zpu_q _ _ _ (by omega)])
        rw [zpu_q _ _ _ (by decide)]
        show _ = nI (va_up (aT A).2 (aT A).1 c i)
        have hi1 : i < (aT A).1 + 1 := hi
        by_cases q : i = (aT A).1
        · subst q; rw [zpu_s, va_up_s]
        · rw [zpu_k _ _ _ q, va_up_n _ _ q]; exact mb i (by omega)
  · refine ⟨.int (-1), A, ho, fun I L Q pc hq => ?_, fun I L Q pm hq => ?_⟩
    · obtain ⟨⟨hp, lp, pp, ep⟩, hk, hi0, hi1, ht, hb, hf, hr, hh⟩ := id pc
      refine Zm.go [some (.ref _), some (.int _)] vl_74 rfl ?_
      refine Zp.iload_n k_74_0 rfl ?_
      refine Zp.iconst (nI 0) k_74_1 (by decide) ?_
      refine Zp.bipush (nI 127) k_74_2 (by decide) ?_
      refine Zp.calls3I vs_129 k_74_4 (Nat.le_of_ble_eq_true rfl) (Nat.le_of_ble_eq_true rfl) (c_isWithin rfl (nI_toInt (by omega)) (nI_toInt (by omega)) ⟨_, rfl, ?_⟩)
      refine Zp.if_neB k_74_7 (fun c_7 => absurd c_7 (by omega)) (fun c_7 => ?_)
      refine Zp.iconst (-1) k_74_10 (by decide) ?_
      refine Zp.iret _ k_74_11 vr_74 rfl ?_
      exact hq I pc (FrC.rf I)
    · obtain ⟨m3, ⟨mp, xp⟩, m4, ms1, ms2, ms3, mk0, mk1, mi0, mi1, mt, mb, mf, mr, mh⟩ := id pm
      refine Zm.go [some (.ref _), some (.int _)] vl_135 rfl ?_
      refine Zp.iload_n k_135_0 rfl ?_
      refine Zp.i2l k_135_1 ?_
      refine Zp.lconst (lN 0) k_135_2 (by decide) ?_
      refine Zp.ldc2 (lN 127) k_135_3 (by decide) ?_
      refine Zp.calls3I vs_131 k_135_6 (Nat.le_of_ble_eq_true rfl) (Nat.le_of_ble_eq_true rfl) (c_in (zi2l _) (lN_z (by decide)) (lN_z (by decide)) ⟨_, rfl, ?_⟩)
      refine Zp.if_neB k_135_9 (fun c_9 => absurd c_9 (by omega)) (fun c_9 => ?_)
      refine Zp.iconst (-1) k_135_12 (by decide) ?_
      refine Zp.iret _ k_135_13 vr_135 rfl ?_
      first | exact hq I L pm (FrM.rf I) | exact hq I2 L pm2 (fun q hq => s2 q (by omega))
theorem B_end (ho : Ao A) : zBoth G 75 136 [.int x] A := by
  obtain ⟨⟨so, sz, sst, lo, po, eo⟩, ok0, ok1, oi0, oi1, ot, ob, of_, or_, oh⟩ := id ho
  obtain ⟨o1, o2, o3, o4, o5, o6, o7⟩ := id so
  obtain ⟨p1, p2, p3⟩ := id lo
  obtain ⟨u1, u2⟩ := id po
  obtain ⟨e1, e2⟩ := id eo
  by_cases v : 0 ≤ x.toInt ∧ x.toInt ≤ ((aT A).1 : Int)
  · obtain ⟨c, hc, rfl, ec⟩ := zin_nI (n := (aT A).1 + 1) v.1 (by omega)
    refine ⟨.int (nI (aT A).1), wT A (c, (aT A).2), ho.tape (by show c ≤ 160; omega) (fun i hi => ob i (by have h3 : i < c := hi; omega)), fun I L Q pc hq => ?_, fun I L Q pm hq => ?_⟩
    · obtain ⟨⟨hp, lp, pp, ep⟩, hk, hi0, hi1, ht, hb, hf, hr, hh⟩ := id pc
      refine Zm.go [some (.ref _), some (.int _), none] vl_75 rfl ?_
      refine Zp.iload_n k_75_0 rfl ?_
      refine Zp.iconst (nI 0) k_75_1 (by decide) ?_
      refine Zp.aload_n k_75_2 rfl ?_
      refine Zp.getR k_75_3 rfl (zlt rfl) m_0 r_0_4 ?_
      refine Zp.getV k_75_6 rfl (zlt rfl) m_29 ht ?_
      refine Zp.calls3I vs_129 k_75_9 (Nat.le_of_ble_eq_true rfl) (Nat.le_of_ble_eq_true rfl) (c_isWithin (nI_toInt (by omega)) (nI_toInt (by omega)) (nI_toInt (by omega)) ⟨_, rfl, ?_⟩)
      refine Zp.if_neB k_75_12 (fun c_12 => ?_) (fun c_12 => absurd c_12 (by omega))
      refine Zp.aload_n k_75_17 rfl ?_
      refine Zp.getR k_75_18 rfl (zlt rfl) m_0 r_0_4 ?_
      refine Zp.getV k_75_21 rfl (zlt rfl) m_29 ht ?_
      refine Zp.istore_n [some (.ref _), some (.int _), some (.int _)] k_75_24 (Nat.lt_of_lt_of_eq (zlt rfl : 2 < 3) vl_75.symm) rfl ?_
      refine Zp.aload_n k_75_25 rfl ?_
      refine Zp.getR k_75_26 rfl (zlt rfl) m_0 r_0_4 ?_
      refine Zp.iload_n k_75_29 rfl ?_
      refine Zp.putI k_75_30 rfl (zlt rfl) m_29 ?_
      refine Zp.iload_n k_75_33 rfl ?_
      refine Zp.iret _ k_75_34 vr_75 rfl ?_
      exact hq _ (pc.tape (zpu_s _ _ _ _) (fun i hi => by rw [zpu_q _ _ _ (by decide)]; exact hb i (by have h3 : i < c := hi; omega)) (fun q h => zpu_q _ _ _ (by omega))) (fun q h => zpu_q _ _ _ (by omega))
    · obtain ⟨m3, ⟨mp, xp⟩, m4, ms1, ms2, ms3, mk0, mk1, mi0, mi1, mt, mb, mf, mr, mh⟩ := id pm
      refine Zm.go [some (.ref _), some (.int _), none] vl_136 rfl ?_
      refine Zp.iload_n k_136_0 rfl ?_
      refine Zp.i2l k_136_1 ?_
      refine Zp.lconst (lN 0) k_136_2 (by decide) ?_
      refine Zp.aload_n k_136_3 rfl ?_
      refine Zp.getV k_136_4 rfl (zlt rfl) m_93 mt ?_
      refine Zp.i2l k_136_7 ?_
      refine Zp.calls3I vs_131 k_136_8 (Nat.le_of_ble_eq_true rfl) (Nat.le_of_ble_eq_true rfl) (c_in (zi2n (by omega)) (lN_z (by decide)) (zi2n (by omega)) ⟨_, rfl, ?_⟩)
      refine Zp.if_neB k_136_11 (fun c_11 => ?_) (fun c_11 => absurd c_11 (by omega))
      refine Zp.aload_n k_136_16 rfl ?_
      refine Zp.getV k_136_17 rfl (zlt rfl) m_93 mt ?_
      refine Zp.istore_n [some (.ref _), some (.int _), some (.int _)] k_136_20 (Nat.lt_of_lt_of_eq (zlt rfl : 2 < 3) vl_136.symm) rfl ?_
      refine Zp.aload_n k_136_21 rfl ?_
      refine Zp.iload_n k_136_22 rfl ?_
      refine Zp.putI k_136_23 rfl (zlt rfl) m_93 ?_
      refine Zp.iload_n k_136_26 rfl ?_
      refine Zp.iret _ k_136_27 vr_136 rfl ?_
      exact hq _ _ (pm.tape (zpu_s _ _ _ _) (fun i hi => by rw [zpu_q _ _ _ (by decide)]; exact mb i (by have h3 : i < c := hi; omega)) (fun j h => zpu_k _ _ _ h) (fun q h h2 => zpu_q _ _ _ (by omega))) (fun q h => zpu_q _ _ _ (by omega))
  · refine ⟨.int (-1), A, ho, fun I L Q pc hq => ?_, fun I L Q pm hq => ?_⟩
    · obtain ⟨⟨hp, lp, pp, ep⟩, hk, hi0, hi1, ht, hb, hf, hr, hh⟩ := id pc
      refine Zm.go [some (.ref _), some (.int _), none] vl_75 rfl ?_
      refine Zp.iload_n k_75_0 rfl ?_
      refine Zp.iconst (nI 0) k_75_1 (by decide) ?_
      refine Zp.aload_n k_75_2 rfl ?_
      refine Zp.getR k_75_3 rfl (zlt rfl) m_0 r_0_4 ?_
      refine Zp.getV k_75_6 rfl (zlt rfl) m_29 ht ?_
      refine Zp.calls3I vs_129 k_75_9 (Nat.le_of_ble_eq_true rfl) (Nat.le_of_ble_eq_true rfl) (c_isWithin rfl (nI_toInt (by omega)) (nI_toInt (by omega)) ⟨_, rfl, ?_⟩)
      refine Zp.if_neB k_75_12 (fun c_12 => absurd c_12 (by omega)) (fun c_12 => ?_)
      refine Zp.iconst (-1) k_75_15 (by decide) ?_
      refine Zp.iret _ k_75_16 vr_75 rfl ?_
      exact hq I pc (FrC.rf I)
    · obtain ⟨m3, ⟨mp, xp⟩, m4, ms1, ms2, ms3, mk0, mk1, mi0, mi1, mt, mb, mf, mr, mh⟩ := id pm
      refine Zm.go [some (.ref _), some (.int _), none] vl_136 rfl ?_
      refine Zp.iload_n k_136_0 rfl ?_
      refine Zp.i2l k_136_1 ?_
      refine Zp.lconst (lN 0) k_136_2 (by decide) ?_
      refine Zp.aload_n k_136_3 rfl ?_
      refine Zp.getV k_136_4 rfl (zlt rfl) m_93 mt ?_
      refine Zp.i2l k_136_7 ?_
      refine Zp.calls3I vs_131 k_136_8 (Nat.le_of_ble_eq_true rfl) (Nat.le_of_ble_eq_true rfl) (c_in (zi2l _) (lN_z (by decide)) (zi2n (by omega)) ⟨_, rfl, ?_⟩)
      refine Zp.if_neB k_136_11 (fun c_11 => absurd c_11 (by omega)) (fun c_11 => ?_)
      refine Zp.iconst (-1) k_136_14 (by decide) ?_
      refine Zp.iret _ k_136_15 vr_136 rfl ?_
      first | exact hq I L pm (FrM.rf I) | exact hq I2 L pm2 (fun q hq => s2 q (by omega))
theorem B_fault (ho : Ao A) : zBoth G 77 154 [] A := by
  refine ⟨.int (nI (aF A)), A, ho, fun I L Q pc hq => ?_, fun I L Q pm hq => ?_⟩
  · obtain ⟨⟨hp, lp, pp, ep⟩, hk, hi0, hi1, ht, hb, hf, hr, hh⟩ := id pc
    refine Zm.go [some (.ref _)] vl_77 rfl ?_
    refine Zp.aload_n k_77_0 rfl ?_
    refine Zp.getV k_77_1 rfl (zlt rfl) m_0 hf ?_
    refine Zp.iret _ k_77_4 vr_77 rfl ?_
    exact hq I pc (FrC.rf I)
  · obtain ⟨m3, ⟨mp, xp⟩, m4, ms1, ms2, ms3, mk0, mk1, mi0, mi1, mt, mb, mf, mr, mh⟩ := id pm
    refine Zm.go [some (.ref _)] vl_154 rfl ?_
    refine Zp.aload_n k_154_0 rfl ?_
    refine Zp.getV k_154_1 rfl (zlt rfl) m_93 mf ?_
    refine Zp.iret _ k_154_4 vr_154 rfl ?_
    first | exact hq I L pm (FrM.rf I) | exact hq I2 L pm2 (fun q hq => s2 q (by omega))
theorem B_rule (ho : Ao A) : zBoth G 78 172 [.int x] A := by
  obtain ⟨⟨so, sz, sst, lo, po, eo⟩, ok0, ok1, oi0, oi1, ot, ob, of_, or_, oh⟩ := id ho
  obtain ⟨o1, o2, o3, o4, o5, o6, o7⟩ := id so
  obtain ⟨p1, p2, p3⟩ := id lo
  obtain ⟨u1, u2⟩ := id po
  obtain ⟨e1, e2⟩ := id eo
  by_cases v : 0 ≤ x.toInt ∧ x.toInt < ((9 : Nat) : Int)
  · obtain ⟨c, hc, rfl, ec⟩ := zin_nI v.1 v.2
    rcases (by omega : c = 0 ∨ c = 1 ∨ c = 2 ∨ c = 3 ∨ c = 4 ∨ c = 5 ∨ c = 6 ∨ c = 7 ∨ c = 8) with rfl | rfl | rfl | rfl | rfl | rfl | rfl | rfl | rfl
    · refine ⟨.int (nI (sn (kS (aK A)))), A, ho, fun I L Q pc hq => ?_, fun I L Q pm hq => ?_⟩
      · obtain ⟨⟨hp, lp, pp, ep⟩, hk, hi0, hi1, ht, hb, hf, hr, hh⟩ := id pc
        refine Zm.go [some (.ref _), some (.int _)] vl_78 rfl ?_
        refine Zp.iload_n k_78_0 rfl ?_
        refine Zp.tabEq 0 0 52 k_78_1 (by decide) (by decide) (by decide) rfl (by decide) (fun _ => ?_) (fun n => absurd rfl n)
        refine Zp.aload_n k_78_52 rfl ?_
        refine Zp.getR k_78_53 rfl (zlt rfl) m_0 r_0_0 ?_
        refine Zp.getR k_78_56 rfl (zlt rfl) m_1 r_1_0 ?_
        refine Zp.getV k_78_59 rfl (zlt rfl) m_2 hp.1 ?_
        refine Zp.iret _ k_78_62 vr_78 rfl ?_
        first | exact hq I pc (FrC.rf I) | exact zqe (hq I pc (FrC.rf I)) (congrArg nI (by omega))
      · obtain ⟨m3, ⟨mp, xp⟩, m4, ms1, ms2, ms3, mk0, mk1, mi0, mi1, mt, mb, mf, mr, mh⟩ := id pm
        refine Zm.go [some (.ref _), some (.int _)] vl_172 rfl ?_
        refine Zp.iload_n k_172_0 rfl ?_
        refine Zp.tabEq 0 0 52 k_172_1 (by decide) (by decide) (by decide) rfl (by decide) (fun _ => ?_) (fun n => absurd rfl n)
        refine Zp.aload_n k_172_52 rfl ?_
        refine Zp.getV k_172_53 rfl (zlt rfl) m_93 m3 ?_
        refine Zp.iret _ k_172_56 vr_172 rfl ?_
        first | exact hq I L pm (FrM.rf I) | exact hq I2 L pm2 (fun q hq => s2 q (by omega))
    · refine ⟨.int (nI (sneed (kS (aK A)))), A, ho, fun I L Q pc hq => ?_, fun I L Q pm hq => ?_⟩
      · obtain ⟨⟨hp, lp, pp, ep⟩, hk, hi0, hi1, ht, hb, hf, hr, hh⟩ := id pc
        refine Zm.go [some (.ref _), some (.int _)] vl_78 rfl ?_
        refine Zp.iload_n k_78_0 rfl ?_
        refine Zp.tabEq 1 1 63 k_78_1 (by decide) (by decide) (by decide) rfl (by decide) (fun _ => ?_) (fun n => absurd rfl n)
        refine Zp.aload_n k_78_63 rfl ?_
        refine Zp.getR k_78_64 rfl (zlt rfl) m_0 r_0_0 ?_
        refine Zp.getR k_78_67 rfl (zlt rfl) m_1 r_1_0 ?_
        refine Zp.getV k_78_70 rfl (zlt rfl) m_2 hp.2.1 ?_
        refine Zp.iret _ k_78_73 vr_78 rfl ?_
        first | exact hq I pc (FrC.rf I) | exact zqe (hq I pc (FrC.rf I)) (congrArg nI (by omega))
      · obtain ⟨m3, ⟨mp, xp⟩, m4, ms1, ms2, ms3, mk0, mk1, mi0, mi1, mt, mb, mf, mr, mh⟩ := id pm
        refine Zm.go [some (.ref _), some (.int _)] vl_172 rfl ?_
        refine Zp.iload_n k_172_0 rfl ?_
        refine Zp.tabEq 1 1 57 k_172_1 (by decide) (by decide) (by decide) rfl (by decide) (fun _ => ?_) (fun n => absurd rfl n)
        refine Zp.aload_n k_172_57 rfl ?_
        refine Zp.getR k_172_58 rfl (zlt rfl) m_93 r_93_0 ?_
        refine Zp.bipush (nI 30) k_172_61 (by decide) ?_
        refine Zp.iload_n k_172_63 rfl ?_
        refine Zp.iaddN k_172_64 ?_
        refine Zp.iconst (nI 1) k_172_65 (by decide) ?_
        refine Zp.isubN k_172_66 (by omega) ?_
        refine Zp.iald _ k_172_67 m_94 rfl (by omega) (zlt rfl) (by first | exact mp.2.2.1 | exact mp.2.2.2.1 | exact mp.2.2.2.2.1 | exact mp.2.2.2.2.2.1 | exact mp.2.2.2.2.2.2 | exact xp.1 | exact xp.2.1 | exact xp.2.2.2.1 | exact xp.2.2.1 _ (by omega) | exact xp.2.2.2.2.2 _ (by omega) | exact xp.2.2.2.2.1 _ (by omega) | exact mp.hh (by omega) (by omega) | exact mp.kk (by omega) | exact mp.2.1 _ (by omega)) ?_
        refine Zp.iret _ k_172_68 vr_172 rfl ?_
        first | exact hq I L pm (FrM.rf I) | exact hq I2 L pm2 (fun q hq => s2 q (by omega))
    · refine ⟨.int (nI (snoon (kS (aK A)))), A, ho, fun I L Q pc hq => ?_, fun I L Q pm hq => ?_⟩
      · obtain ⟨⟨hp, lp, pp, ep⟩, hk, hi0, hi1, ht, hb, hf, hr, hh⟩ := id pc
        refine Zm.go [some (.ref _), some (.int _)] vl_78 rfl ?_
        refine Zp.iload_n k_78_0 rfl ?_
        refine Zp.tabEq 2 2 74 k_78_1 (by decide) (by decide) (by decide) rfl (by decide) (fun _ => ?_) (fun n => absurd rfl n)
        refine Zp.aload_n k_78_74 rfl ?_
        refine Zp.getR k_78_75 rfl (zlt rfl) m_0 r_0_0 ?_
        refine Zp.getR k_78_78 rfl (zlt rfl) m_1 r_1_0 ?_
        refine Zp.getV k_78_81 rfl (zlt rfl) m_2 hp.2.2.1 ?_
        refine Zp.iret _ k_78_84 vr_78 rfl ?_
        first | exact hq I pc (FrC.rf I) | exact zqe (hq I pc (FrC.rf I)) (congrArg nI (by omega))
      · obtain ⟨m3, ⟨mp, xp⟩, m4, ms1, ms2, ms3, mk0, mk1, mi0, mi1, mt, mb, mf, mr, mh⟩ := id pm
        refine Zm.go [some (.ref _), some (.int _)] vl_172 rfl ?_
        refine Zp.iload_n k_172_0 rfl ?_
        refine Zp.tabEq 2 2 57 k_172_1 (by decide) (by decide) (by decide) rfl (by decide) (fun _ => ?_) (fun n => absurd rfl n)
        refine Zp.aload_n k_172_57 rfl ?_
        refine Zp.getR k_172_58 rfl (zlt rfl) m_93 r_93_0 ?_
        refine Zp.bipush (nI 30) k_172_61 (by decide) ?_
        refine Zp.iload_n k_172_63 rfl ?_
        refine Zp.iaddN k_172_64 ?_
        refine Zp.iconst (nI 1) k_172_65 (by decide) ?_
        refine Zp.isubN k_172_66 (by omega) ?_
        refine Zp.iald _ k_172_67 m_94 rfl (by omega) (zlt rfl) (by first | exact mp.2.2.1 | exact mp.2.2.2.1 | exact mp.2.2.2.2.1 | exact mp.2.2.2.2.2.1 | exact mp.2.2.2.2.2.2 | exact xp.1 | exact xp.2.1 | exact xp.2.2.2.1 | exact xp.2.2.1 _ (by omega) | exact xp.2.2.2.2.2 _ (by omega) | exact xp.2.2.2.2.1 _ (by omega) | exact mp.hh (by omega) (by omega) | exact mp.kk (by omega) | exact mp.2.1 _ (by omega)) ?_
        refine Zp.iret _ k_172_68 vr_172 rfl ?_
        first | exact hq I L pm (FrM.rf I) | exact hq I2 L pm2 (fun q hq => s2 q (by omega))
    · refine ⟨.int (nI (sstep (kS (aK A)))), A, ho, fun I L Q pc hq => ?_, fun I L Q pm hq => ?_⟩
      · obtain ⟨⟨hp, lp, pp, ep⟩, hk, hi0, hi1, ht, hb, hf, hr, hh⟩ := id pc
        refine Zm.go [some (.ref _), some (.int _)] vl_78 rfl ?_
        refine Zp.iload_n k_78_0 rfl ?_
        refine Zp.tabEq 3 3 85 k_78_1 (by decide) (by decide) (by decide) rfl (by decide) (fun _ => ?_) (fun n => absurd rfl n)
        refine Zp.aload_n k_78_85 rfl ?_
        refine Zp.getR k_78_86 rfl (zlt rfl) m_0 r_0_0 ?_
        refine Zp.getR k_78_89 rfl (zlt rfl) m_1 r_1_0 ?_
        refine Zp.getV k_78_92 rfl (zlt rfl) m_2 hp.2.2.2.1 ?_
        refine Zp.iret _ k_78_95 vr_78 rfl ?_
        first | exact hq I pc (FrC.rf I) | exact zqe (hq I pc (FrC.rf I)) (congrArg nI (by omega))
      · obtain ⟨m3, ⟨mp, xp⟩, m4, ms1, ms2, ms3, mk0, mk1, mi0, mi1, mt, mb, mf, mr, mh⟩ := id pm
        refine Zm.go [some (.ref _), some (.int _)] vl_172 rfl ?_
        refine Zp.iload_n k_172_0 rfl ?_
        refine Zp.tabEq 3 3 57 k_172_1 (by decide) (by decide) (by decide) rfl (by decide) (fun _ => ?_) (fun n => absurd rfl n)
        refine Zp.aload_n k_172_57 rfl ?_
        refine Zp.getR k_172_58 rfl (zlt rfl) m_93 r_93_0 ?_
        refine Zp.bipush (nI 30) k_172_61 (by decide) ?_
        refine Zp.iload_n k_172_63 rfl ?_
        refine Zp.iaddN k_172_64 ?_
        refine Zp.iconst (nI 1) k_172_65 (by decide) ?_
        refine Zp.isubN k_172_66 (by omega) ?_
        refine Zp.iald _ k_172_67 m_94 rfl (by omega) (zlt rfl) (by first | exact mp.2.2.1 | exact mp.2.2.2.1 | exact mp.2.2.2.2.1 | exact mp.2.2.2.2.2.1 | exact mp.2.2.2.2.2.2 | exact xp.1 | exact xp.2.1 | exact xp.2.2.2.1 | exact xp.2.2.1 _ (by omega) | exact xp.2.2.2.2.2 _ (by omega) | exact xp.2.2.2.2.1 _ (by omega) | exact mp.hh (by omega) (by omega) | exact mp.kk (by omega) | exact mp.2.1 _ (by omega)) ?_
        refine Zp.iret _ k_172_68 vr_172 rfl ?_
        first | exact hq I L pm (FrM.rf I) | exact hq I2 L pm2 (fun q hq => s2 q (by omega))
    · refine ⟨.int (nI (sdone (kS (aK A)))), A, ho, fun I L Q pc hq => ?_, fun I L Q pm hq => ?_⟩
      · obtain ⟨⟨hp, lp, pp, ep⟩, hk, hi0, hi1, ht, hb, hf, hr, hh⟩ := id pc
        refine Zm.go [some (.ref _), some (.int _)] vl_78 rfl ?_
        refine Zp.iload_n k_78_0 rfl ?_
        refine Zp.tabEq 4 4 96 k_78_1 (by decide) (by decide) (by decide) rfl (by decide) (fun _ => ?_) (fun n => absurd rfl n)
        refine Zp.aload_n k_78_96 rfl ?_
        refine Zp.getR k_78_97 rfl (zlt rfl) m_0 r_0_0 ?_
        refine Zp.getR k_78_100 rfl (zlt rfl) m_1 r_1_0 ?_
        refine Zp.getV k_78_103 rfl (zlt rfl) m_2 hp.2.2.2.2.1 ?_
        refine Zp.iret _ k_78_106 vr_78 rfl ?_
        first | exact hq I pc (FrC.rf I) | exact zqe (hq I pc (FrC.rf I)) (congrArg nI (by omega))
      · obtain ⟨m3, ⟨mp, xp⟩, m4, ms1, ms2, ms3, mk0, mk1, mi0, mi1, mt, mb, mf, mr, mh⟩ := id pm
        refine Zm.go [some (.ref _), some (.int _)] vl_172 rfl ?_
        refine Zp.iload_n k_172_0 rfl ?_
        refine Zp.tabEq 4 4 57 k_172_1 (by decide) (by decide) (by decide) rfl (by decide) (fun _ => ?_) (fun n => absurd rfl n)
        refine Zp.aload_n k_172_57 rfl ?_
        refine Zp.getR k_172_58 rfl (zlt rfl) m_93 r_93_0 ?_
        refine Zp.bipush (nI 30) k_172_61 (by decide) ?_
        refine Zp.iload_n k_172_63 rfl ?_
        refine Zp.iaddN k_172_64 ?_
        refine Zp.iconst (nI 1) k_172_65 (by decide) ?_
        refine Zp.isubN k_172_66 (by omega) ?_
        refine Zp.iald _ k_172_67 m_94 rfl (by omega) (zlt rfl) (by first | exact mp.2.2.1 | exact mp.2.2.2.1 | exact mp.2.2.2.2.1 | exact mp.2.2.2.2.2.1 | exact mp.2.2.2.2.2.2 | exact xp.1 | exact xp.2.1 | exact xp.2.2.2.1 | exact xp.2.2.1 _ (by omega) | exact xp.2.2.2.2.2 _ (by omega) | exact xp.2.2.2.2.1 _ (by omega) | exact mp.hh (by omega) (by omega) | exact mp.kk (by omega) | exact mp.2.1 _ (by omega)) ?_
        refine Zp.iret _ k_172_68 vr_172 rfl ?_
        first | exact hq I L pm (FrM.rf I) | exact hq I2 L pm2 (fun q hq => s2 q (by omega))
    · refine ⟨.int (nI (sset (kS (aK A)))), A, ho, fun I L Q pc hq => ?_, fun I L Q pm hq => ?_⟩
      · obtain ⟨⟨hp, lp, pp, ep⟩, hk, hi0, hi1, ht, hb, hf, hr, hh⟩ := id pc
        refine Zm.go [some (.ref _), some (.int _)] vl_78 rfl ?_
        refine Zp.iload_n k_78_0 rfl ?_
        refine Zp.tabEq 5 5 107 k_78_1 (by decide) (by decide) (by decide) rfl (by decide) (fun _ => ?_) (fun n => absurd rfl n)
        refine Zp.aload_n k_78_107 rfl ?_
        refine Zp.getR k_78_108 rfl (zlt rfl) m_0 r_0_0 ?_
        refine Zp.getR k_78_111 rfl (zlt rfl) m_1 r_1_0 ?_
        refine Zp.getV k_78_114 rfl (zlt rfl) m_2 hp.2.2.2.2.2.1 ?_
        refine Zp.if_eqN k_78_117 (by omega) (fun c_117 => ?_) (fun c_117 => ?_)
        · refine Zp.iconst (nI 0) k_78_124 (by decide) ?_
          refine Zp.iret _ k_78_125 vr_78 rfl ?_
          first | exact hq I pc (FrC.rf I) | exact zqe (hq I pc (FrC.rf I)) (congrArg nI (by omega))
        · refine Zp.iconst (nI 1) k_78_120 (by decide) ?_
          refine Zp.goto k_78_121 ?_
          refine Zp.iret _ k_78_125 vr_78 rfl ?_
          first | exact hq I pc (FrC.rf I) | exact zqe (hq I pc (FrC.rf I)) (congrArg nI (by omega))
      · obtain ⟨m3, ⟨mp, xp⟩, m4, ms1, ms2, ms3, mk0, mk1, mi0, mi1, mt, mb, mf, mr, mh⟩ := id pm
        refine Zm.go [some (.ref _), some (.int _)] vl_172 rfl ?_
        refine Zp.iload_n k_172_0 rfl ?_
        refine Zp.tabEq 5 5 57 k_172_1 (by decide) (by decide) (by decide) rfl (by decide) (fun _ => ?_) (fun n => absurd rfl n)
        refine Zp.aload_n k_172_57 rfl ?_
        refine Zp.getR k_172_58 rfl (zlt rfl) m_93 r_93_0 ?_
        refine Zp.bipush (nI 30) k_172_61 (by decide) ?_
        refine Zp.iload_n k_172_63 rfl ?_
        refine Zp.iaddN k_172_64 ?_
        refine Zp.iconst (nI 1) k_172_65 (by decide) ?_
        refine Zp.isubN k_172_66 (by omega) ?_
        refine Zp.iald _ k_172_67 m_94 rfl (by omega) (zlt rfl) (by first | exact mp.2.2.1 | exact mp.2.2.2.1 | exact mp.2.2.2.2.1 | exact mp.2.2.2.2.2.1 | exact mp.2.2.2.2.2.2 | exact xp.1 | exact xp.2.1 | exact xp.2.2.2.1 | exact xp.2.2.1 _ (by omega) | exact xp.2.2.2.2.2 _ (by omega) | exact xp.2.2.2.2.1 _ (by omega) | exact mp.hh (by omega) (by omega) | exact mp.kk (by omega) | exact mp.2.1 _ (by omega)) ?_
        refine Zp.iret _ k_172_68 vr_172 rfl ?_
        first | exact hq I L pm (FrM.rf I) | exact hq I2 L pm2 (fun q hq => s2 q (by omega))
    · refine ⟨.int (nI (lc (kP (aK A)))), A, ho, fun I L Q pc hq => ?_, fun I L Q pm hq => ?_⟩
      · obtain ⟨⟨hp, lp, pp, ep⟩, hk, hi0, hi1, ht, hb, hf, hr, hh⟩ := id pc
        refine Zm.go [some (.ref _), some (.int _)] vl_78 rfl ?_
        refine Zp.iload_n k_78_0 rfl ?_
        refine Zp.tabEq 6 6 126 k_78_1 (by decide) (by decide) (by decide) rfl (by decide) (fun _ => ?_) (fun n => absurd rfl n)
        refine Zp.aload_n k_78_126 rfl ?_
        refine Zp.getR k_78_127 rfl (zlt rfl) m_0 r_0_0 ?_
        refine Zp.getR k_78_130 rfl (zlt rfl) m_1 r_1_1 ?_
        refine Zp.getV k_78_133 rfl (zlt rfl) m_5 lp.1 ?_
        refine Zp.iret _ k_78_136 vr_78 rfl ?_
        first | exact hq I pc (FrC.rf I) | exact zqe (hq I pc (FrC.rf I)) (congrArg nI (by omega))
      · obtain ⟨m3, ⟨mp, xp⟩, m4, ms1, ms2, ms3, mk0, mk1, mi0, mi1, mt, mb, mf, mr, mh⟩ := id pm
        refine Zm.go [some (.ref _), some (.int _)] vl_172 rfl ?_
        refine Zp.iload_n k_172_0 rfl ?_
        refine Zp.tabEq 6 6 69 k_172_1 (by decide) (by decide) (by decide) rfl (by decide) (fun _ => ?_) (fun n => absurd rfl n)
        refine Zp.aload_n k_172_69 rfl ?_
        refine Zp.getV k_172_70 rfl (zlt rfl) m_93 m4 ?_
        refine Zp.iret _ k_172_73 vr_172 rfl ?_
        first | exact hq I L pm (FrM.rf I) | exact hq I2 L pm2 (fun q hq => s2 q (by omega))
    · refine ⟨.int (nI (lu (kP (aK A)))), A, ho, fun I L Q pc hq => ?_, fun I L Q pm hq => ?_⟩
      · obtain ⟨⟨hp, lp, pp, ep⟩, hk, hi0, hi1, ht, hb, hf, hr, hh⟩ := id pc
        refine Zm.go [some (.ref _), some (.int _)] vl_78 rfl ?_
        refine Zp.iload_n k_78_0 rfl ?_
        refine Zp.tabEq 7 7 137 k_78_1 (by decide) (by decide) (by decide) rfl (by decide) (fun _ => ?_) (fun n => absurd rfl n)
        refine Zp.aload_n k_78_137 rfl ?_
        refine Zp.getR k_78_138 rfl (zlt rfl) m_0 r_0_0 ?_
        refine Zp.getR k_78_141 rfl (zlt rfl) m_1 r_1_1 ?_
        refine Zp.getV k_78_144 rfl (zlt rfl) m_5 lp.2.1 ?_
        refine Zp.iret _ k_78_147 vr_78 rfl ?_
        first | exact hq I pc (FrC.rf I) | exact zqe (hq I pc (FrC.rf I)) (congrArg nI (by omega))
      · obtain ⟨m3, ⟨mp, xp⟩, m4, ms1, ms2, ms3, mk0, mk1, mi0, mi1, mt, mb, mf, mr, mh⟩ := id pm
        refine Zm.go [some (.ref _), some (.int _)] vl_172 rfl ?_
        refine Zp.iload_n k_172_0 rfl ?_
        refine Zp.tabEq 7 7 74 k_172_1 (by decide) (by decide) (by decide) rfl (by decide) (fun _ => ?_) (fun n => absurd rfl n)
        refine Zp.aload_n k_172_74 rfl ?_
        refine Zp.getR k_172_75 rfl (zlt rfl) m_93 r_93_0 ?_
        refine Zp.bipush (nI 35) k_172_78 (by decide) ?_
        refine Zp.iald _ k_172_80 m_94 rfl (by omega) (zlt rfl) (by first | exact mp.2.2.1 | exact mp.2.2.2.1 | exact mp.2.2.2.2.1 | exact mp.2.2.2.2.2.1 | exact mp.2.2.2.2.2.2 | exact xp.1 | exact xp.2.1 | exact xp.2.2.2.1 | exact xp.2.2.1 _ (by omega) | exact xp.2.2.2.2.2 _ (by omega) | exact xp.2.2.2.2.1 _ (by omega) | exact mp.hh (by omega) (by omega) | exact mp.kk (by omega) | exact mp.2.1 _ (by omega)) ?_
        refine Zp.iret _ k_172_81 vr_172 rfl ?_
        first | exact hq I L pm (FrM.rf I) | exact hq I2 L pm2 (fun q hq => s2 q (by omega))
    · refine ⟨.int (nI ((kU (aK A)).1)), A, ho, fun I L Q pc hq => ?_, fun I L Q pm hq => ?_⟩
      · obtain ⟨⟨hp, lp, pp, ep⟩, hk, hi0, hi1, ht, hb, hf, hr, hh⟩ := id pc
        refine Zm.go [some (.ref _), some (.int _)] vl_78 rfl ?_
        refine Zp.iload_n k_78_0 rfl ?_
        refine Zp.tabEq 8 8 148 k_78_1 (by decide) (by decide) (by decide) rfl (by decide) (fun _ => ?_) (fun n => absurd rfl n)
        refine Zp.aload_n k_78_148 rfl ?_
        refine Zp.getR k_78_149 rfl (zlt rfl) m_0 r_0_0 ?_
        refine Zp.getR k_78_152 rfl (zlt rfl) m_1 r_1_2 ?_
        refine Zp.getV k_78_155 rfl (zlt rfl) m_9 pp.1 ?_
        refine Zp.iret _ k_78_158 vr_78 rfl ?_
        first | exact hq I pc (FrC.rf I) | exact zqe (hq I pc (FrC.rf I)) (congrArg nI (by omega))
      · obtain ⟨m3, ⟨mp, xp⟩, m4, ms1, ms2, ms3, mk0, mk1, mi0, mi1, mt, mb, mf, mr, mh⟩ := id pm
        refine Zm.go [some (.ref _), some (.int _)] vl_172 rfl ?_
        refine Zp.iload_n k_172_0 rfl ?_
        refine Zp.tabEq 8 8 82 k_172_1 (by decide) (by decide) (by decide) rfl (by decide) (fun _ => ?_) (fun n => absurd rfl n)
        refine Zp.aload_n k_172_82 rfl ?_
        refine Zp.getR k_172_83 rfl (zlt rfl) m_93 r_93_0 ?_
        refine Zp.bipush (nI 36) k_172_86 (by decide) ?_
        refine Zp.iald _ k_172_88 m_94 rfl (by omega) (zlt rfl) (by first | exact mp.2.2.1 | exact mp.2.2.2.1 | exact mp.2.2.2.2.1 | exact mp.2.2.2.2.2.1 | exact mp.2.2.2.2.2.2 | exact xp.1 | exact xp.2.1 | exact xp.2.2.2.1 | exact xp.2.2.1 _ (by omega) | exact xp.2.2.2.2.2 _ (by omega) | exact xp.2.2.2.2.1 _ (by omega) | exact mp.hh (by omega) (by omega) | exact mp.kk (by omega) | exact mp.2.1 _ (by omega)) ?_
        refine Zp.iret _ k_172_89 vr_172 rfl ?_
        first | exact hq I L pm (FrM.rf I) | exact hq I2 L pm2 (fun q hq => s2 q (by omega))
  · refine ⟨.int (-1), A, ho, fun I L Q pc hq => ?_, fun I L Q pm hq => ?_⟩
    · obtain ⟨⟨hp, lp, pp, ep⟩, hk, hi0, hi1, ht, hb, hf, hr, hh⟩ := id pc
      refine Zm.go [some (.ref _), some (.int _)] vl_78 rfl ?_
      refine Zp.iload_n k_78_0 rfl ?_
      refine Zp.tabNo _ 159 k_78_1 rfl (by omega) (by decide) ?_
      refine Zp.iconst (-1) k_78_159 (by decide) ?_
      refine Zp.iret _ k_78_160 vr_78 rfl ?_
      exact hq I pc (FrC.rf I)
    · obtain ⟨m3, ⟨mp, xp⟩, m4, ms1, ms2, ms3, mk0, mk1, mi0, mi1, mt, mb, mf, mr, mh⟩ := id pm
      refine Zm.go [some (.ref _), some (.int _)] vl_172 rfl ?_
      refine Zp.iload_n k_172_0 rfl ?_
      refine Zp.tabNo _ 90 k_172_1 rfl (by omega) (by decide) ?_
      refine Zp.iconst (-1) k_172_90 (by decide) ?_
      refine Zp.iret _ k_172_91 vr_172 rfl ?_
      first | exact hq I L pm (FrM.rf I) | exact hq I2 L pm2 (fun q hq => s2 q (by omega))
theorem B_helper (ho : Ao A) : zBoth G 79 173 [.int x] A := by
  obtain ⟨⟨so, sz, sst, lo, po, eo⟩, ok0, ok1, oi0, oi1, ot, ob, of_, or_, oh⟩ := id ho
  obtain ⟨o1, o2, o3, o4, o5, o6, o7⟩ := id so
  obtain ⟨p1, p2, p3⟩ := id lo
  obtain ⟨u1, u2⟩ := id po
  obtain ⟨e1, e2⟩ := id eo
  by_cases v : 0 ≤ x.toInt ∧ x.toInt < (sn (kS (aK A)) : Int)
  · obtain ⟨c, hc, rfl, ec⟩ := zin_nI v.1 v.2
    refine ⟨.int (nI (skd (kS (aK A)) c)), A, ho, fun I L Q pc hq => ?_, fun I L Q pm hq => ?_⟩
    · obtain ⟨⟨hp, lp, pp, ep⟩, hk, hi0, hi1, ht, hb, hf, hr, hh⟩ := id pc
      refine Zm.go [some (.ref _), some (.int _)] vl_79 rfl ?_
      refine Zp.aload_n k_79_0 rfl ?_
      refine Zp.getR k_79_1 rfl (zlt rfl) m_0 r_0_0 ?_
      refine Zp.getR k_79_4 rfl (zlt rfl) m_1 r_1_0 ?_
      refine Zp.iload_n k_79_7 rfl ?_
      refine Zp.callv1I v_56 k_79_8 m_2 (Nat.le_of_ble_eq_true rfl) (Nat.le_of_ble_eq_true rfl) (c_isHelper sa_2 hp so ⟨_, rfl, ?_⟩)
      refine Zp.if_eqB k_79_11 (fun c_11 => absurd c_11 (by omega)) (fun c_11 => ?_)
      refine Zp.aload_n k_79_14 rfl ?_
      refine Zp.getR k_79_15 rfl (zlt rfl) m_0 r_0_0 ?_
      refine Zp.getR k_79_18 rfl (zlt rfl) m_1 r_1_0 ?_
      refine Zp.getR k_79_21 rfl (zlt rfl) m_2 r_2_6 ?_
      refine Zp.iload_n k_79_24 rfl ?_
      refine Zp.iald _ k_79_25 m_3 rfl (by omega) (zlt rfl) (hp.2.2.2.2.2.2.1 _ (by omega)) ?_
      refine Zp.goto k_79_26 ?_
      refine Zp.iret _ k_79_30 vr_79 rfl ?_
      exact hq I pc (FrC.rf I)
    · obtain ⟨m3, ⟨mp, xp⟩, m4, ms1, ms2, ms3, mk0, mk1, mi0, mi1, mt, mb, mf, mr, mh⟩ := id pm
      refine Zm.go [some (.ref _), some (.int _)] vl_173 rfl ?_
      refine Zp.aload_n k_173_0 rfl ?_
      refine Zp.iload_n k_173_1 rfl ?_
      refine Zp.callv1I v_155 k_173_2 m_93 (Nat.le_of_ble_eq_true rfl) (Nat.le_of_ble_eq_true rfl) (c_isHelperM m3 (by omega) ⟨_, rfl, ?_⟩)
      refine Zp.if_eqB k_173_5 (fun c_5 => absurd c_5 (by omega)) (fun c_5 => ?_)
      refine Zp.aload_n k_173_8 rfl ?_
      refine Zp.getR k_173_9 rfl (zlt rfl) m_93 r_93_0 ?_
      refine Zp.iconst (nI 0) k_173_12 (by decide) ?_
      refine Zp.iload_n k_173_13 rfl ?_
      refine Zp.iaddN k_173_14 ?_
      refine Zp.iald _ k_173_15 m_94 rfl (by omega) (zlt rfl) (by first | exact mp.2.2.1 | exact mp.2.2.2.1 | exact mp.2.2.2.2.1 | exact mp.2.2.2.2.2.1 | exact mp.2.2.2.2.2.2 | exact xp.1 | exact xp.2.1 | exact xp.2.2.2.1 | exact xp.2.2.1 _ (by omega) | exact xp.2.2.2.2.2 _ (by omega) | exact xp.2.2.2.2.1 _ (by omega) | exact mp.hh (by omega) (by omega) | exact mp.kk (by omega) | exact mp.2.1 _ (by omega)) ?_
      refine Zp.goto k_173_16 ?_
      refine Zp.iret _ k_173_20 vr_173 rfl ?_
      first | exact hq I L pm (FrM.rf I) | exact hq I2 L pm2 (fun q hq => s2 q (by omega))
  · refine ⟨.int (-1), A, ho, fun I L Q pc hq => ?_, fun I L Q pm hq => ?_⟩
    · obtain ⟨⟨hp, lp, pp, ep⟩, hk, hi0, hi1, ht, hb, hf, hr, hh⟩ := id pc
      refine Zm.go [some (.ref _), some (.int _)] vl_79 rfl ?_
      refine Zp.aload_n k_79_0 rfl ?_
      refine Zp.getR k_79_1 rfl (zlt rfl) m_0 r_0_0 ?_
      refine Zp.getR k_79_4 rfl (zlt rfl) m_1 r_1_0 ?_
      refine Zp.iload_n k_79_7 rfl ?_
      refine Zp.callv1I v_56 k_79_8 m_2 (Nat.le_of_ble_eq_true rfl) (Nat.le_of_ble_eq_true rfl) (c_isHelper sa_2 hp so ⟨_, rfl, ?_⟩)
      refine Zp.if_eqB k_79_11 (fun c_11 => ?_) (fun c_11 => absurd c_11 (by omega))
      refine Zp.iconst (-1) k_79_29 (by decide) ?_
      refine Zp.iret _ k_79_30 vr_79 rfl ?_
      exact hq I pc (FrC.rf I)
    · obtain ⟨m3, ⟨mp, xp⟩, m4, ms1, ms2, ms3, mk0, mk1, mi0, mi1, mt, mb, mf, mr, mh⟩ := id pm
      refine Zm.go [some (.ref _), some (.int _)] vl_173 rfl ?_
      refine Zp.aload_n k_173_0 rfl ?_
      refine Zp.iload_n k_173_1 rfl ?_
      refine Zp.callv1I v_155 k_173_2 m_93 (Nat.le_of_ble_eq_true rfl) (Nat.le_of_ble_eq_true rfl) (c_isHelperM m3 (by omega) ⟨_, rfl, ?_⟩)
      refine Zp.if_eqB k_173_5 (fun c_5 => ?_) (fun c_5 => absurd c_5 (by omega))
      refine Zp.iconst (-1) k_173_19 (by decide) ?_
      refine Zp.iret _ k_173_20 vr_173 rfl ?_
      first | exact hq I L pm (FrM.rf I) | exact hq I2 L pm2 (fun q hq => s2 q (by omega))
theorem B_hatred (ho : Ao A) : zBoth G 80 174 [.int x, .int y, .int z] A := by
  obtain ⟨⟨so, sz, sst, lo, po, eo⟩, ok0, ok1, oi0, oi1, ot, ob, of_, or_, oh⟩ := id ho
  obtain ⟨o1, o2, o3, o4, o5, o6, o7⟩ := id so
  obtain ⟨p1, p2, p3⟩ := id lo
  obtain ⟨u1, u2⟩ := id po
  obtain ⟨e1, e2⟩ := id eo
  by_cases v : (0 ≤ x.toInt ∧ x.toInt < (sn (kS (aK A)) : Int)) ∧ (0 ≤ y.toInt ∧ y.toInt < (sn (kS (aK A)) : Int)) ∧ ¬ x.toInt = y.toInt
  · by_cases w : 0 ≤ z.toInt ∧ z.toInt ≤ 1
    · obtain ⟨a, ha, rfl, ea⟩ := zin_nI v.1.1 v.1.2
      obtain ⟨b, hb0, rfl, eb⟩ := zin_nI v.2.1.1 v.2.1.2
      obtain ⟨c, hc, rfl, ec⟩ := zin_nI (n := 2) w.1 (by omega)
      rcases (by omega : c = 0 ∨ c = 1) with rfl | rfl
      · refine ⟨.int (nI (sht (kS (aK A)) (a * 5 + b))), A, ho, fun I L Q pc hq => ?_, fun I L Q pm hq => ?_⟩
        · obtain ⟨⟨hp, lp, pp, ep⟩, hk, hi0, hi1, ht, hb, hf, hr, hh⟩ := id pc
          refine Zm.go [some (.ref _), some (.int _), some (.int _), some (.int _)] vl_80 rfl ?_
          refine Zp.aload_n k_80_0 rfl ?_
          refine Zp.getR k_80_1 rfl (zlt rfl) m_0 r_0_0 ?_
          refine Zp.getR k_80_4 rfl (zlt rfl) m_1 r_1_0 ?_
          refine Zp.iload_n k_80_7 rfl ?_
          refine Zp.iload_n k_80_8 rfl ?_
          refine Zp.callv2I v_57 k_80_9 m_2 (Nat.le_of_ble_eq_true rfl) (Nat.le_of_ble_eq_true rfl) (c_areTwo sa_2 hp so ⟨_, rfl, ?_⟩)
          refine Zp.if_eqB k_80_12 (fun c_12 => absurd c_12 (by omega)) (fun c_12 => ?_)
          refine Zp.iload_n k_80_15 rfl ?_
          refine Zp.iconst (nI 0) k_80_16 (by decide) ?_
          refine Zp.iconst (nI 1) k_80_17 (by decide) ?_
          refine Zp.calls3I vs_129 k_80_18 (Nat.le_of_ble_eq_true rfl) (Nat.le_of_ble_eq_true rfl) (c_isWithin (nI_toInt (by omega)) (nI_toInt (by omega)) (nI_toInt (by omega)) ⟨_, rfl, ?_⟩)
          refine Zp.if_neB k_80_21 (fun c_21 => ?_) (fun c_21 => absurd c_21 (by omega))
          refine Zp.iload_n k_80_26 rfl ?_
          refine Zp.if_neN k_80_27 (by omega) (fun c_27 => absurd c_27 (by omega)) (fun c_27 => ?_)
          refine Zp.aload_n k_80_30 rfl ?_
          refine Zp.getR k_80_31 rfl (zlt rfl) m_0 r_0_0 ?_
          refine Zp.getR k_80_34 rfl (zlt rfl) m_1 r_1_0 ?_
          refine Zp.iload_n k_80_37 rfl ?_
          refine Zp.iload_n k_80_38 rfl ?_
          refine Zp.callv2I v_58 k_80_39 m_2 (Nat.le_of_ble_eq_true rfl) (Nat.le_of_ble_eq_true rfl) (c_hatredOf sa_2 hp (by omega) (by omega) ⟨_, rfl, ?_⟩)
          refine Zp.goto k_80_42 ?_
          refine Zp.iret _ k_80_57 vr_80 rfl ?_
          exact hq I pc (FrC.rf I)
        · obtain ⟨m3, ⟨mp, xp⟩, m4, ms1, ms2, ms3, mk0, mk1, mi0, mi1, mt, mb, mf, mr, mh⟩ := id pm
          refine Zm.go [some (.ref _), some (.int _), some (.int _), some (.int _)] vl_174 rfl ?_
          refine Zp.aload_n k_174_0 rfl ?_
          refine Zp.iload_n k_174_1 rfl ?_
          refine Zp.iload_n k_174_2 rfl ?_
          refine Zp.callv2I v_156 k_174_3 m_93 (Nat.le_of_ble_eq_true rfl) (Nat.le_of_ble_eq_true rfl) (c_areTwoM m3 (by omega) ⟨_, rfl, ?_⟩)
          refine Zp.if_eqB k_174_6 (fun c_6 => absurd c_6 (by omega)) (fun c_6 => ?_)
          refine Zp.iload_n k_174_9 rfl ?_
          refine Zp.calls1I vs_158 k_174_10 (Nat.le_of_ble_eq_true rfl) (Nat.le_of_ble_eq_true rfl) (c_isPartM ⟨_, rfl, ?_⟩)
          refine Zp.if_neB k_174_13 (fun c_13 => ?_) (fun c_13 => absurd c_13 (by omega))
          refine Zp.aload_n k_174_18 rfl ?_
          refine Zp.callv0V v_159 k_174_19 m_93 (Nat.le_of_ble_eq_true rfl) (Nat.le_of_ble_eq_true rfl) (c_goM pm ho (fun I2 pm2 mq xq s2 => ⟨rfl, ?_⟩))
          refine Zp.iload_n k_174_22 rfl ?_
          refine Zp.if_neN k_174_23 (by omega) (fun c_23 => absurd c_23 (by omega)) (fun c_23 => ?_)
          refine Zp.aload_n k_174_26 rfl ?_
          refine Zp.iload_n k_174_27 rfl ?_
          refine Zp.iload_n k_174_28 rfl ?_
          refine Zp.callv2I v_161 k_174_29 m_93 (Nat.le_of_ble_eq_true rfl) (Nat.le_of_ble_eq_true rfl) (c_hatesM mq (by omega) (by omega) ⟨_, rfl, ?_⟩)
          refine Zp.goto k_174_32 ?_
          refine Zp.iret _ k_174_41 vr_174 rfl ?_
          first | exact hq I L pm (FrM.rf I) | exact hq I2 L pm2 (fun q hq => s2 q (by omega))
      · refine ⟨.int (nI (fl (kS (aK A)) a b)), A, ho, fun I L Q pc hq => ?_, fun I L Q pm hq => ?_⟩
        · obtain ⟨⟨hp, lp, pp, ep⟩, hk, hi0, hi1, ht, hb, hf, hr, hh⟩ := id pc
          refine Zm.go [some (.ref _), some (.int _), some (.int _), some (.int _)] vl_80 rfl ?_
          refine Zp.aload_n k_80_0 rfl ?_
          refine Zp.getR k_80_1 rfl (zlt rfl) m_0 r_0_0 ?_
          refine Zp.getR k_80_4 rfl (zlt rfl) m_1 r_1_0 ?_
          refine Zp.iload_n k_80_7 rfl ?_
          refine Zp.iload_n k_80_8 rfl ?_
          refine Zp.callv2I v_57 k_80_9 m_2 (Nat.le_of_ble_eq_true rfl) (Nat.le_of_ble_eq_true rfl) (c_areTwo sa_2 hp so ⟨_, rfl, ?_⟩)
          refine Zp.if_eqB k_80_12 (fun c_12 => absurd c_12 (by omega)) (fun c_12 => ?_)
          refine Zp.iload_n k_80_15 rfl ?_
          refine Zp.iconst (nI 0) k_80_16 (by decide) ?_
          refine Zp.iconst (nI 1) k_80_17 (by decide) ?_
          refine Zp.calls3I vs_129 k_80_18 (Nat.le_of_ble_eq_true rfl) (Nat.le_of_ble_eq_true rfl) (c_isWithin (nI_toInt (by omega)) (nI_toInt (by omega)) (nI_toInt (by omega)) ⟨_, rfl, ?_⟩)
          refine Zp.if_neB k_80_21 (fun c_21 => ?_) (fun c_21 => absurd c_21 (by omega))
          refine Zp.iload_n k_80_26 rfl ?_
          refine Zp.if_neN k_80_27 (by omega) (fun c_27 => ?_) (fun c_27 => absurd c_27 (by omega))
          refine Zp.aload_n k_80_45 rfl ?_
          refine Zp.getR k_80_46 rfl (zlt rfl) m_0 r_0_0 ?_
          refine Zp.getR k_80_49 rfl (zlt rfl) m_1 r_1_0 ?_
          refine Zp.iload_n k_80_52 rfl ?_
          refine Zp.iload_n k_80_53 rfl ?_
          refine Zp.callv2I v_60 k_80_54 m_2 (Nat.le_of_ble_eq_true rfl) (Nat.le_of_ble_eq_true rfl) (c_feelingOf sa_2 hp so (by omega) (by omega) ⟨_, rfl, ?_⟩)
          refine Zp.iret _ k_80_57 vr_80 rfl ?_
          exact hq I pc (FrC.rf I)
        · obtain ⟨m3, ⟨mp, xp⟩, m4, ms1, ms2, ms3, mk0, mk1, mi0, mi1, mt, mb, mf, mr, mh⟩ := id pm
          refine Zm.go [some (.ref _), some (.int _), some (.int _), some (.int _)] vl_174 rfl ?_
          refine Zp.aload_n k_174_0 rfl ?_
          refine Zp.iload_n k_174_1 rfl ?_
          refine Zp.iload_n k_174_2 rfl ?_
          refine Zp.callv2I v_156 k_174_3 m_93 (Nat.le_of_ble_eq_true rfl) (Nat.le_of_ble_eq_true rfl) (c_areTwoM m3 (by omega) ⟨_, rfl, ?_⟩)
          refine Zp.if_eqB k_174_6 (fun c_6 => absurd c_6 (by omega)) (fun c_6 => ?_)
          refine Zp.iload_n k_174_9 rfl ?_
          refine Zp.calls1I vs_158 k_174_10 (Nat.le_of_ble_eq_true rfl) (Nat.le_of_ble_eq_true rfl) (c_isPartM ⟨_, rfl, ?_⟩)
          refine Zp.if_neB k_174_13 (fun c_13 => ?_) (fun c_13 => absurd c_13 (by omega))
          refine Zp.aload_n k_174_18 rfl ?_
          refine Zp.callv0V v_159 k_174_19 m_93 (Nat.le_of_ble_eq_true rfl) (Nat.le_of_ble_eq_true rfl) (c_goM pm ho (fun I2 pm2 mq xq s2 => ⟨rfl, ?_⟩))
          refine Zp.iload_n k_174_22 rfl ?_
          refine Zp.if_neN k_174_23 (by omega) (fun c_23 => ?_) (fun c_23 => absurd c_23 (by omega))
          refine Zp.aload_n k_174_35 rfl ?_
          refine Zp.iload_n k_174_36 rfl ?_
          refine Zp.iload_n k_174_37 rfl ?_
          refine Zp.callv2I v_163 k_174_38 m_93 (Nat.le_of_ble_eq_true rfl) (Nat.le_of_ble_eq_true rfl) (c_feelsM mq so (by omega) (by omega) ⟨_, rfl, ?_⟩)
          refine Zp.iret _ k_174_41 vr_174 rfl ?_
          first | exact hq I L pm (FrM.rf I) | exact hq I2 L pm2 (fun q hq => s2 q (by omega))
    · refine ⟨.int (-1), A, ho, fun I L Q pc hq => ?_, fun I L Q pm hq => ?_⟩
      · obtain ⟨⟨hp, lp, pp, ep⟩, hk, hi0, hi1, ht, hb, hf, hr, hh⟩ := id pc
        refine Zm.go [some (.ref _), some (.int _), some (.int _), some (.int _)] vl_80 rfl ?_
        refine Zp.aload_n k_80_0 rfl ?_
        refine Zp.getR k_80_1 rfl (zlt rfl) m_0 r_0_0 ?_
        refine Zp.getR k_80_4 rfl (zlt rfl) m_1 r_1_0 ?_
        refine Zp.iload_n k_80_7 rfl ?_
        refine Zp.iload_n k_80_8 rfl ?_
        refine Zp.callv2I v_57 k_80_9 m_2 (Nat.le_of_ble_eq_true rfl) (Nat.le_of_ble_eq_true rfl) (c_areTwo sa_2 hp so ⟨_, rfl, ?_⟩)
        refine Zp.if_eqB k_80_12 (fun c_12 => absurd c_12 (by omega)) (fun c_12 => ?_)
        refine Zp.iload_n k_80_15 rfl ?_
        refine Zp.iconst (nI 0) k_80_16 (by decide) ?_
        refine Zp.iconst (nI 1) k_80_17 (by decide) ?_
        refine Zp.calls3I vs_129 k_80_18 (Nat.le_of_ble_eq_true rfl) (Nat.le_of_ble_eq_true rfl) (c_isWithin rfl (nI_toInt (by omega)) (nI_toInt (by omega)) ⟨_, rfl, ?_⟩)
        refine Zp.if_neB k_80_21 (fun c_21 => absurd c_21 (by omega)) (fun c_21 => ?_)
        refine Zp.iconst (-1) k_80_24 (by decide) ?_
        refine Zp.iret _ k_80_25 vr_80 rfl ?_
        exact hq I pc (FrC.rf I)
      · obtain ⟨m3, ⟨mp, xp⟩, m4, ms1, ms2, ms3, mk0, mk1, mi0, mi1, mt, mb, mf, mr, mh⟩ := id pm
        refine Zm.go [some (.ref _), some (.int _), some (.int _), some (.int _)] vl_174 rfl ?_
        refine Zp.aload_n k_174_0 rfl ?_
        refine Zp.iload_n k_174_1 rfl ?_
        refine Zp.iload_n k_174_2 rfl ?_
        refine Zp.callv2I v_156 k_174_3 m_93 (Nat.le_of_ble_eq_true rfl) (Nat.le_of_ble_eq_true rfl) (c_areTwoM m3 (by omega) ⟨_, rfl, ?_⟩)
        refine Zp.if_eqB k_174_6 (fun c_6 => absurd c_6 (by omega)) (fun c_6 => ?_)
        refine Zp.iload_n k_174_9 rfl ?_
        refine Zp.calls1I vs_158 k_174_10 (Nat.le_of_ble_eq_true rfl) (Nat.le_of_ble_eq_true rfl) (c_isPartM ⟨_, rfl, ?_⟩)
        refine Zp.if_neB k_174_13 (fun c_13 => absurd c_13 (by omega)) (fun c_13 => ?_)
        refine Zp.iconst (-1) k_174_16 (by decide) ?_
        refine Zp.iret _ k_174_17 vr_174 rfl ?_
        first | exact hq I L pm (FrM.rf I) | exact hq I2 L pm2 (fun q hq => s2 q (by omega))
  · refine ⟨.int (-1), A, ho, fun I L Q pc hq => ?_, fun I L Q pm hq => ?_⟩
    · obtain ⟨⟨hp, lp, pp, ep⟩, hk, hi0, hi1, ht, hb, hf, hr, hh⟩ := id pc
      refine Zm.go [some (.ref _), some (.int _), some (.int _), some (.int _)] vl_80 rfl ?_
      refine Zp.aload_n k_80_0 rfl ?_
      refine Zp.getR k_80_1 rfl (zlt rfl) m_0 r_0_0 ?_
      refine Zp.getR k_80_4 rfl (zlt rfl) m_1 r_1_0 ?_
      refine Zp.iload_n k_80_7 rfl ?_
      refine Zp.iload_n k_80_8 rfl ?_
      refine Zp.callv2I v_57 k_80_9 m_2 (Nat.le_of_ble_eq_true rfl) (Nat.le_of_ble_eq_true rfl) (c_areTwo sa_2 hp so ⟨_, rfl, ?_⟩)
      refine Zp.if_eqB k_80_12 (fun c_12 => ?_) (fun c_12 => (by first | exact absurd c_12 v | exact absurd v c_12))
      refine Zp.iconst (-1) k_80_24 (by decide) ?_
      refine Zp.iret _ k_80_25 vr_80 rfl ?_
      exact hq I pc (FrC.rf I)
    · obtain ⟨m3, ⟨mp, xp⟩, m4, ms1, ms2, ms3, mk0, mk1, mi0, mi1, mt, mb, mf, mr, mh⟩ := id pm
      refine Zm.go [some (.ref _), some (.int _), some (.int _), some (.int _)] vl_174 rfl ?_
      refine Zp.aload_n k_174_0 rfl ?_
      refine Zp.iload_n k_174_1 rfl ?_
      refine Zp.iload_n k_174_2 rfl ?_
      refine Zp.callv2I v_156 k_174_3 m_93 (Nat.le_of_ble_eq_true rfl) (Nat.le_of_ble_eq_true rfl) (c_areTwoM m3 (by omega) ⟨_, rfl, ?_⟩)
      refine Zp.if_eqB k_174_6 (fun c_6 => ?_) (fun c_6 => (by first | exact absurd c_6 v | exact absurd v c_6))
      refine Zp.iconst (-1) k_174_16 (by decide) ?_
      refine Zp.iret _ k_174_17 vr_174 rfl ?_
      first | exact hq I L pm (FrM.rf I) | exact hq I2 L pm2 (fun q hq => s2 q (by omega))
theorem B_slip (ho : Ao A) : zBoth G 81 175 [.int x, .int y] A := by
  obtain ⟨⟨so, sz, sst, lo, po, eo⟩, ok0, ok1, oi0, oi1, ot, ob, of_, or_, oh⟩ := id ho
  obtain ⟨o1, o2, o3, o4, o5, o6, o7⟩ := id so
  obtain ⟨p1, p2, p3⟩ := id lo
  obtain ⟨u1, u2⟩ := id po
  obtain ⟨e1, e2⟩ := id eo
  by_cases v : 0 ≤ x.toInt ∧ x.toInt < (lc (kP (aK A)) : Int)
  · obtain ⟨i, hi, rfl, ei⟩ := zin_nI v.1 v.2
    by_cases w : 0 ≤ y.toInt ∧ y.toInt < ((4 : Nat) : Int)
    · obtain ⟨c, hc, rfl, ec⟩ := zin_nI w.1 w.2
      rcases (by omega : c = 0 ∨ c = 1 ∨ c = 2 ∨ c = 3) with rfl | rfl | rfl | rfl
      · refine ⟨.int (nI (l1 (kP (aK A)) i)), A, ho, fun I L Q pc hq => ?_, fun I L Q pm hq => ?_⟩
        · obtain ⟨⟨hp, lp, pp, ep⟩, hk, hi0, hi1, ht, hb, hf, hr, hh⟩ := id pc
          refine Zm.go [some (.ref _), some (.int _), some (.int _)] vl_81 rfl ?_
          refine Zp.aload_n k_81_0 rfl ?_
          refine Zp.getR k_81_1 rfl (zlt rfl) m_0 r_0_0 ?_
          refine Zp.getR k_81_4 rfl (zlt rfl) m_1 r_1_1 ?_
          refine Zp.iload_n k_81_7 rfl ?_
          refine Zp.callv1I v_49 k_81_8 m_5 (Nat.le_of_ble_eq_true rfl) (Nat.le_of_ble_eq_true rfl) (c_has la_5 lp lo ⟨_, rfl, ?_⟩)
          refine Zp.if_neB k_81_11 (fun c_11 => ?_) (fun c_11 => absurd c_11 (by omega))
          refine Zp.iload_n k_81_16 rfl ?_
          refine Zp.tabEq 0 0 48 k_81_17 (by decide) (by decide) (by decide) rfl (by decide) (fun _ => ?_) (fun n => absurd rfl n)
          refine Zp.aload_n k_81_48 rfl ?_
          refine Zp.getR k_81_49 rfl (zlt rfl) m_0 r_0_0 ?_
          refine Zp.getR k_81_52 rfl (zlt rfl) m_1 r_1_1 ?_
          refine Zp.getR k_81_55 rfl (zlt rfl) m_5 r_5_2 ?_
          refine Zp.iload_n k_81_58 rfl ?_
          refine Zp.iald _ k_81_59 m_6 rfl (by omega) (zlt rfl) (lp.2.2.1 _ (by omega)) ?_
          refine Zp.iret _ k_81_60 vr_81 rfl ?_
          first | exact hq I pc (FrC.rf I) | exact zqe (hq I pc (FrC.rf I)) (congrArg nI (by omega))
        · obtain ⟨m3, ⟨mp, xp⟩, m4, ms1, ms2, ms3, mk0, mk1, mi0, mi1, mt, mb, mf, mr, mh⟩ := id pm
          refine Zm.go [some (.ref _), some (.int _), some (.int _)] vl_175 rfl ?_
          refine Zp.aload_n k_175_0 rfl ?_
          refine Zp.iload_n k_175_1 rfl ?_
          refine Zp.callv1I v_157 k_175_2 m_93 (Nat.le_of_ble_eq_true rfl) (Nat.le_of_ble_eq_true rfl) (c_isSlipM m4 (by omega) ⟨_, rfl, ?_⟩)
          refine Zp.if_neB k_175_5 (fun c_5 => ?_) (fun c_5 => absurd c_5 (by omega))
          refine Zp.iload_n k_175_10 rfl ?_
          refine Zp.tabEq 0 0 40 k_175_11 (by decide) (by decide) (by decide) rfl (by decide) (fun _ => ?_) (fun n => absurd rfl n)
          refine Zp.aload_n k_175_40 rfl ?_
          refine Zp.getR k_175_41 rfl (zlt rfl) m_93 r_93_5 ?_
          refine Zp.iload_n k_175_44 rfl ?_
          refine Zp.iald _ k_175_45 m_97 rfl (by omega) (zlt rfl) (ms1 _ (by omega)) ?_
          refine Zp.iret _ k_175_46 vr_175 rfl ?_
          first | exact hq I L pm (FrM.rf I) | exact hq I2 L pm2 (fun q hq => s2 q (by omega))
      · refine ⟨.int (nI (l2 (kP (aK A)) i)), A, ho, fun I L Q pc hq => ?_, fun I L Q pm hq => ?_⟩
        · obtain ⟨⟨hp, lp, pp, ep⟩, hk, hi0, hi1, ht, hb, hf, hr, hh⟩ := id pc
          refine Zm.go [some (.ref _), some (.int _), some (.int _)] vl_81 rfl ?_
          refine Zp.aload_n k_81_0 rfl ?_
          refine Zp.getR k_81_1 rfl (zlt rfl) m_0 r_0_0 ?_
          refine Zp.getR k_81_4 rfl (zlt rfl) m_1 r_1_1 ?_
          refine Zp.iload_n k_81_7 rfl ?_
          refine Zp.callv1I v_49 k_81_8 m_5 (Nat.le_of_ble_eq_true rfl) (Nat.le_of_ble_eq_true rfl) (c_has la_5 lp lo ⟨_, rfl, ?_⟩)
          refine Zp.if_neB k_81_11 (fun c_11 => ?_) (fun c_11 => absurd c_11 (by omega))
          refine Zp.iload_n k_81_16 rfl ?_
          refine Zp.tabEq 1 1 61 k_81_17 (by decide) (by decide) (by decide) rfl (by decide) (fun _ => ?_) (fun n => absurd rfl n)
          refine Zp.aload_n k_81_61 rfl ?_
          refine Zp.getR k_81_62 rfl (zlt rfl) m_0 r_0_0 ?_
          refine Zp.getR k_81_65 rfl (zlt rfl) m_1 r_1_1 ?_
          refine Zp.getR k_81_68 rfl (zlt rfl) m_5 r_5_3 ?_
          refine Zp.iload_n k_81_71 rfl ?_
          refine Zp.iald _ k_81_72 m_7 rfl (by omega) (zlt rfl) (lp.2.2.2.1 _ (by omega)) ?_
          refine Zp.iret _ k_81_73 vr_81 rfl ?_
          first | exact hq I pc (FrC.rf I) | exact zqe (hq I pc (FrC.rf I)) (congrArg nI (by omega))
        · obtain ⟨m3, ⟨mp, xp⟩, m4, ms1, ms2, ms3, mk0, mk1, mi0, mi1, mt, mb, mf, mr, mh⟩ := id pm
          refine Zm.go [some (.ref _), some (.int _), some (.int _)] vl_175 rfl ?_
          refine Zp.aload_n k_175_0 rfl ?_
          refine Zp.iload_n k_175_1 rfl ?_
          refine Zp.callv1I v_157 k_175_2 m_93 (Nat.le_of_ble_eq_true rfl) (Nat.le_of_ble_eq_true rfl) (c_isSlipM m4 (by omega) ⟨_, rfl, ?_⟩)
          refine Zp.if_neB k_175_5 (fun c_5 => ?_) (fun c_5 => absurd c_5 (by omega))
          refine Zp.iload_n k_175_10 rfl ?_
          refine Zp.tabEq 1 1 47 k_175_11 (by decide) (by decide) (by decide) rfl (by decide) (fun _ => ?_) (fun n => absurd rfl n)
          refine Zp.aload_n k_175_47 rfl ?_
          refine Zp.getR k_175_48 rfl (zlt rfl) m_93 r_93_6 ?_
          refine Zp.iload_n k_175_51 rfl ?_
          refine Zp.iald _ k_175_52 m_98 rfl (by omega) (zlt rfl) (ms2 _ (by omega)) ?_
          refine Zp.iret _ k_175_53 vr_175 rfl ?_
          first | exact hq I L pm (FrM.rf I) | exact hq I2 L pm2 (fun q hq => s2 q (by omega))
      · refine ⟨.int (nI (l3 (kP (aK A)) i)), A, ho, fun I L Q pc hq => ?_, fun I L Q pm hq => ?_⟩
        · obtain ⟨⟨hp, lp, pp, ep⟩, hk, hi0, hi1, ht, hb, hf, hr, hh⟩ := id pc
          refine Zm.go [some (.ref _), some (.int _), some (.int _)] vl_81 rfl ?_
          refine Zp.aload_n k_81_0 rfl ?_
          refine Zp.getR k_81_1 rfl (zlt rfl) m_0 r_0_0 ?_
          refine Zp.getR k_81_4 rfl (zlt rfl) m_1 r_1_1 ?_
          refine Zp.iload_n k_81_7 rfl ?_
          refine Zp.callv1I v_49 k_81_8 m_5 (Nat.le_of_ble_eq_true rfl) (Nat.le_of_ble_eq_true rfl) (c_has la_5 lp lo ⟨_, rfl, ?_⟩)
          refine Zp.if_neB k_81_11 (fun c_11 => ?_) (fun c_11 => absurd c_11 (by omega))
          refine Zp.iload_n k_81_16 rfl ?_
          refine Zp.tabEq 2 2 74 k_81_17 (by decide) (by decide) (by decide) rfl (by decide) (fun _ => ?_) (fun n => absurd rfl n)
          refine Zp.aload_n k_81_74 rfl ?_
          refine Zp.getR k_81_75 rfl (zlt rfl) m_0 r_0_0 ?_
          refine Zp.getR k_81_78 rfl (zlt rfl) m_1 r_1_1 ?_
          refine Zp.getR k_81_81 rfl (zlt rfl) m_5 r_5_4 ?_
          refine Zp.iload_n k_81_84 rfl ?_
          refine Zp.iald _ k_81_85 m_8 rfl (by omega) (zlt rfl) (lp.2.2.2.2 _ (by omega)) ?_
          refine Zp.iret _ k_81_86 vr_81 rfl ?_
          first | exact hq I pc (FrC.rf I) | exact zqe (hq I pc (FrC.rf I)) (congrArg nI (by omega))
        · obtain ⟨m3, ⟨mp, xp⟩, m4, ms1, ms2, ms3, mk0, mk1, mi0, mi1, mt, mb, mf, mr, mh⟩ := id pm
          refine Zm.go [some (.ref _), some (.int _), some (.int _)] vl_175 rfl ?_
          refine Zp.aload_n k_175_0 rfl ?_
          refine Zp.iload_n k_175_1 rfl ?_
          refine Zp.callv1I v_157 k_175_2 m_93 (Nat.le_of_ble_eq_true rfl) (Nat.le_of_ble_eq_true rfl) (c_isSlipM m4 (by omega) ⟨_, rfl, ?_⟩)
          refine Zp.if_neB k_175_5 (fun c_5 => ?_) (fun c_5 => absurd c_5 (by omega))
          refine Zp.iload_n k_175_10 rfl ?_
          refine Zp.tabEq 2 2 54 k_175_11 (by decide) (by decide) (by decide) rfl (by decide) (fun _ => ?_) (fun n => absurd rfl n)
          refine Zp.aload_n k_175_54 rfl ?_
          refine Zp.getR k_175_55 rfl (zlt rfl) m_93 r_93_7 ?_
          refine Zp.iload_n k_175_58 rfl ?_
          refine Zp.iald _ k_175_59 m_99 rfl (by omega) (zlt rfl) (ms3 _ (by omega)) ?_
          refine Zp.iret _ k_175_60 vr_175 rfl ?_
          first | exact hq I L pm (FrM.rf I) | exact hq I2 L pm2 (fun q hq => s2 q (by omega))
      · refine ⟨.int (nI (lu (kP (aK A)) / 2 ^ i % 2)), A, ho, fun I L Q pc hq => ?_, fun I L Q pm hq => ?_⟩
        · obtain ⟨⟨hp, lp, pp, ep⟩, hk, hi0, hi1, ht, hb, hf, hr, hh⟩ := id pc
          refine Zm.go [some (.ref _), some (.int _), some (.int _)] vl_81 rfl ?_
          refine Zp.aload_n k_81_0 rfl ?_
          refine Zp.getR k_81_1 rfl (zlt rfl) m_0 r_0_0 ?_
          refine Zp.getR k_81_4 rfl (zlt rfl) m_1 r_1_1 ?_
          refine Zp.iload_n k_81_7 rfl ?_
          refine Zp.callv1I v_49 k_81_8 m_5 (Nat.le_of_ble_eq_true rfl) (Nat.le_of_ble_eq_true rfl) (c_has la_5 lp lo ⟨_, rfl, ?_⟩)
          refine Zp.if_neB k_81_11 (fun c_11 => ?_) (fun c_11 => absurd c_11 (by omega))
          refine Zp.iload_n k_81_16 rfl ?_
          refine Zp.tabEq 3 3 87 k_81_17 (by decide) (by decide) (by decide) rfl (by decide) (fun _ => ?_) (fun n => absurd rfl n)
          refine Zp.aload_n k_81_87 rfl ?_
          refine Zp.getR k_81_88 rfl (zlt rfl) m_0 r_0_0 ?_
          refine Zp.getR k_81_91 rfl (zlt rfl) m_1 r_1_1 ?_
          refine Zp.iload_n k_81_94 rfl ?_
          refine Zp.callv1I v_50 k_81_95 m_5 (Nat.le_of_ble_eq_true rfl) (Nat.le_of_ble_eq_true rfl) (c_isUsed la_5 lp lo (by omega) ⟨_, rfl, ?_⟩)
          refine Zp.if_eqB k_81_98 (fun c_98 => ?_) (fun c_98 => ?_)
          · refine Zp.iconst (nI 0) k_81_105 (by decide) ?_
            refine Zp.iret _ k_81_106 vr_81 rfl ?_
            first | exact hq I pc (FrC.rf I) | exact zqe (hq I pc (FrC.rf I)) (congrArg nI (by omega))
          · refine Zp.iconst (nI 1) k_81_101 (by decide) ?_
            refine Zp.goto k_81_102 ?_
            refine Zp.iret _ k_81_106 vr_81 rfl ?_
            first | exact hq I pc (FrC.rf I) | exact zqe (hq I pc (FrC.rf I)) (congrArg nI (by omega))
        · obtain ⟨m3, ⟨mp, xp⟩, m4, ms1, ms2, ms3, mk0, mk1, mi0, mi1, mt, mb, mf, mr, mh⟩ := id pm
          refine Zm.go [some (.ref _), some (.int _), some (.int _)] vl_175 rfl ?_
          refine Zp.aload_n k_175_0 rfl ?_
          refine Zp.iload_n k_175_1 rfl ?_
          refine Zp.callv1I v_157 k_175_2 m_93 (Nat.le_of_ble_eq_true rfl) (Nat.le_of_ble_eq_true rfl) (c_isSlipM m4 (by omega) ⟨_, rfl, ?_⟩)
          refine Zp.if_neB k_175_5 (fun c_5 => ?_) (fun c_5 => absurd c_5 (by omega))
          refine Zp.iload_n k_175_10 rfl ?_
          refine Zp.tabEq 3 3 61 k_175_11 (by decide) (by decide) (by decide) rfl (by decide) (fun _ => ?_) (fun n => absurd rfl n)
          refine Zp.aload_n k_175_61 rfl ?_
          refine Zp.getR k_175_62 rfl (zlt rfl) m_93 r_93_0 ?_
          refine Zp.bipush (nI 35) k_175_65 (by decide) ?_
          refine Zp.iald _ k_175_67 m_94 rfl (by omega) (zlt rfl) (by first | exact mp.2.2.1 | exact mp.2.2.2.1 | exact mp.2.2.2.2.1 | exact mp.2.2.2.2.2.1 | exact mp.2.2.2.2.2.2 | exact xp.1 | exact xp.2.1 | exact xp.2.2.2.1 | exact xp.2.2.1 _ (by omega) | exact xp.2.2.2.2.2 _ (by omega) | exact xp.2.2.2.2.1 _ (by omega) | exact mp.hh (by omega) (by omega) | exact mp.kk (by omega) | exact mp.2.1 _ (by omega)) ?_
          refine Zp.iload_n k_175_68 rfl ?_
          refine Zp.ishr k_175_69 ?_
          refine Zp.iconst (nI 1) k_175_70 (by decide) ?_
          
          refine Zp.iand k_175_71 ?_
          rw [bit_at p2 (by omega)]
          refine Zp.iret _ k_175_72 vr_175 rfl ?_
          first | exact hq I L pm (FrM.rf I) | exact hq I2 L pm2 (fun q hq => s2 q (by omega))
    · refine ⟨.int (-1), A, ho, fun I L Q pc hq => ?_, fun I L Q pm hq => ?_⟩
      · obtain ⟨⟨hp, lp, pp, ep⟩, hk, hi0, hi1, ht, hb, hf, hr, hh⟩ := id pc
        refine Zm.go [some (.ref _), some (.int _), some (.int _)] vl_81 rfl ?_
        refine Zp.aload_n k_81_0 rfl ?_
        refine Zp.getR k_81_1 rfl (zlt rfl) m_0 r_0_0 ?_
        refine Zp.getR k_81_4 rfl (zlt rfl) m_1 r_1_1 ?_
        refine Zp.iload_n k_81_7 rfl ?_
        refine Zp.callv1I v_49 k_81_8 m_5 (Nat.le_of_ble_eq_true rfl) (Nat.le_of_ble_eq_true rfl) (c_has la_5 lp lo ⟨_, rfl, ?_⟩)
        refine Zp.if_neB k_81_11 (fun c_11 => ?_) (fun c_11 => absurd c_11 (by omega))
        refine Zp.iload_n k_81_16 rfl ?_
        refine Zp.tabNo _ 107 k_81_17 rfl (by omega) (by decide) ?_
        refine Zp.iconst (-1) k_81_107 (by decide) ?_
        refine Zp.iret _ k_81_108 vr_81 rfl ?_
        exact hq I pc (FrC.rf I)
      · obtain ⟨m3, ⟨mp, xp⟩, m4, ms1, ms2, ms3, mk0, mk1, mi0, mi1, mt, mb, mf, mr, mh⟩ := id pm
        refine Zm.go [some (.ref _), some (.int _), some (.int _)] vl_175 rfl ?_
        refine Zp.aload_n k_175_0 rfl ?_
        refine Zp.iload_n k_175_1 rfl ?_
        refine Zp.callv1I v_157 k_175_2 m_93 (Nat.le_of_ble_eq_true rfl) (Nat.le_of_ble_eq_true rfl) (c_isSlipM m4 (by omega) ⟨_, rfl, ?_⟩)
        refine Zp.if_neB k_175_5 (fun c_5 => ?_) (fun c_5 => absurd c_5 (by omega))
        refine Zp.iload_n k_175_10 rfl ?_
        refine Zp.tabNo _ 73 k_175_11 rfl (by omega) (by decide) ?_
        refine Zp.iconst (-1) k_175_73 (by decide) ?_
        refine Zp.iret _ k_175_74 vr_175 rfl ?_
        first | exact hq I L pm (FrM.rf I) | exact hq I2 L pm2 (fun q hq => s2 q (by omega))
  · refine ⟨.int (-1), A, ho, fun I L Q pc hq => ?_, fun I L Q pm hq => ?_⟩
    · obtain ⟨⟨hp, lp, pp, ep⟩, hk, hi0, hi1, ht, hb, hf, hr, hh⟩ := id pc
      refine Zm.go [some (.ref _), some (.int _), some (.int _)] vl_81 rfl ?_
      refine Zp.aload_n k_81_0 rfl ?_
      refine Zp.getR k_81_1 rfl (zlt rfl) m_0 r_0_0 ?_
      refine Zp.getR k_81_4 rfl (zlt rfl) m_1 r_1_1 ?_
      refine Zp.iload_n k_81_7 rfl ?_
      refine Zp.callv1I v_49 k_81_8 m_5 (Nat.le_of_ble_eq_true rfl) (Nat.le_of_ble_eq_true rfl) (c_has la_5 lp lo ⟨_, rfl, ?_⟩)
      refine Zp.if_neB k_81_11 (fun c_11 => absurd c_11 (by omega)) (fun c_11 => ?_)
      refine Zp.iconst (-1) k_81_14 (by decide) ?_
      refine Zp.iret _ k_81_15 vr_81 rfl ?_
      exact hq I pc (FrC.rf I)
    · obtain ⟨m3, ⟨mp, xp⟩, m4, ms1, ms2, ms3, mk0, mk1, mi0, mi1, mt, mb, mf, mr, mh⟩ := id pm
      refine Zm.go [some (.ref _), some (.int _), some (.int _)] vl_175 rfl ?_
      refine Zp.aload_n k_175_0 rfl ?_
      refine Zp.iload_n k_175_1 rfl ?_
      refine Zp.callv1I v_157 k_175_2 m_93 (Nat.le_of_ble_eq_true rfl) (Nat.le_of_ble_eq_true rfl) (c_isSlipM m4 (by omega) ⟨_, rfl, ?_⟩)
      refine Zp.if_neB k_175_5 (fun c_5 => absurd c_5 (by omega)) (fun c_5 => ?_)
      refine Zp.iconst (-1) k_175_8 (by decide) ?_
      refine Zp.iret _ k_175_9 vr_175 rfl ?_
      first | exact hq I L pm (FrM.rf I) | exact hq I2 L pm2 (fun q hq => s2 q (by omega))
theorem B_plan (ho : Ao A) : zBoth G 82 176 [.int x] A := by
  obtain ⟨⟨so, sz, sst, lo, po, eo⟩, ok0, ok1, oi0, oi1, ot, ob, of_, or_, oh⟩ := id ho
  obtain ⟨o1, o2, o3, o4, o5, o6, o7⟩ := id so
  obtain ⟨p1, p2, p3⟩ := id lo
  obtain ⟨u1, u2⟩ := id po
  obtain ⟨e1, e2⟩ := id eo
  by_cases v : 0 ≤ x.toInt ∧ x.toInt < ((kU (aK A)).1 : Int)
  · obtain ⟨i, hi, rfl, ei⟩ := zin_nI v.1 v.2
    refine ⟨.int (nI ((kU (aK A)).2 i)), A, ho, fun I L Q pc hq => ?_, fun I L Q pm hq => ?_⟩
    · obtain ⟨⟨hp, lp, pp, ep⟩, hk, hi0, hi1, ht, hb, hf, hr, hh⟩ := id pc
      refine Zm.go [some (.ref _), some (.int _)] vl_82 rfl ?_
      refine Zp.iload_n k_82_0 rfl ?_
      refine Zp.if_ltN k_82_1 (by omega) ?_
      refine Zp.iload_n k_82_4 rfl ?_
      refine Zp.aload_n k_82_5 rfl ?_
      refine Zp.getR k_82_6 rfl (zlt rfl) m_0 r_0_0 ?_
      refine Zp.getR k_82_9 rfl (zlt rfl) m_1 r_1_2 ?_
      refine Zp.getV k_82_12 rfl (zlt rfl) m_9 pp.1 ?_
      refine Zp.icmp_geN k_82_15 (by omega) (by omega) (fun c_15 => absurd c_15 (by omega)) (fun c_15 => ?_)
      refine Zp.aload_n k_82_18 rfl ?_
      refine Zp.getR k_82_19 rfl (zlt rfl) m_0 r_0_0 ?_
      refine Zp.getR k_82_22 rfl (zlt rfl) m_1 r_1_2 ?_
      refine Zp.getR k_82_25 rfl (zlt rfl) m_9 r_9_1 ?_
      refine Zp.iload_n k_82_28 rfl ?_
      refine Zp.iald _ k_82_29 m_10 rfl (by omega) (zlt rfl) (pp.2 _ (by omega)) ?_
      refine Zp.goto k_82_30 ?_
      refine Zp.iret _ k_82_34 vr_82 rfl ?_
      exact hq I pc (FrC.rf I)
    · obtain ⟨m3, ⟨mp, xp⟩, m4, ms1, ms2, ms3, mk0, mk1, mi0, mi1, mt, mb, mf, mr, mh⟩ := id pm
      refine Zm.go [some (.ref _), some (.int _)] vl_176 rfl ?_
      refine Zp.iload_n k_176_0 rfl ?_
      refine Zp.i2l k_176_1 ?_
      refine Zp.lconst (lN 0) k_176_2 (by decide) ?_
      refine Zp.aload_n k_176_3 rfl ?_
      refine Zp.getR k_176_4 rfl (zlt rfl) m_93 r_93_0 ?_
      refine Zp.bipush (nI 36) k_176_7 (by decide) ?_
      refine Zp.iald _ k_176_9 m_94 rfl (by omega) (zlt rfl) (by first | exact mp.2.2.1 | exact mp.2.2.2.1 | exact mp.2.2.2.2.1 | exact mp.2.2.2.2.2.1 | exact mp.2.2.2.2.2.2 | exact xp.1 | exact xp.2.1 | exact xp.2.2.2.1 | exact xp.2.2.1 _ (by omega) | exact xp.2.2.2.2.2 _ (by omega) | exact xp.2.2.2.2.1 _ (by omega) | exact mp.hh (by omega) (by omega) | exact mp.kk (by omega) | exact mp.2.1 _ (by omega)) ?_
      refine Zp.iconst (nI 1) k_176_10 (by decide) ?_
      refine Zp.isub k_176_11 ?_
      refine Zp.i2l k_176_12 ?_
      refine Zp.calls3I vs_131 k_176_13 (Nat.le_of_ble_eq_true rfl) (Nat.le_of_ble_eq_true rfl) (c_in (zi2n (by omega)) (lN_z (by decide)) (zm1 (by omega)) ⟨_, rfl, ?_⟩)
      refine Zp.if_eqB k_176_16 (fun c_16 => absurd c_16 (by omega)) (fun c_16 => ?_)
      refine Zp.aload_n k_176_19 rfl ?_
      refine Zp.getR k_176_20 rfl (zlt rfl) m_93 r_93_0 ?_
      refine Zp.bipush (nI 37) k_176_23 (by decide) ?_
      refine Zp.iload_n k_176_25 rfl ?_
      refine Zp.iaddN k_176_26 ?_
      refine Zp.iald _ k_176_27 m_94 rfl (by omega) (zlt rfl) (by first | exact mp.2.2.1 | exact mp.2.2.2.1 | exact mp.2.2.2.2.1 | exact mp.2.2.2.2.2.1 | exact mp.2.2.2.2.2.2 | exact xp.1 | exact xp.2.1 | exact xp.2.2.2.1 | exact xp.2.2.1 _ (by omega) | exact xp.2.2.2.2.2 _ (by omega) | exact xp.2.2.2.2.1 _ (by omega) | exact mp.hh (by omega) (by omega) | exact mp.kk (by omega) | exact mp.2.1 _ (by omega)) ?_
      refine Zp.goto k_176_28 ?_
      refine Zp.iret _ k_176_32 vr_176 rfl ?_
      first | exact hq I L pm (FrM.rf I) | exact hq I2 L pm2 (fun q hq => s2 q (by omega))
  · refine ⟨.int (-1), A, ho, fun I L Q pc hq => ?_, fun I L Q pm hq => ?_⟩
    · obtain ⟨⟨hp, lp, pp, ep⟩, hk, hi0, hi1, ht, hb, hf, hr, hh⟩ := id pc
      refine Zm.go [some (.ref _), some (.int _)] vl_82 rfl ?_
      refine Zp.iload_n k_82_0 rfl ?_
      refine Zp.if_ltZ _ k_82_1 rfl (fun c_1 => ?_) (fun c_1 => ?_)
      · refine Zp.iconst (-1) k_82_33 (by decide) ?_
        refine Zp.iret _ k_82_34 vr_82 rfl ?_
        exact hq I pc (FrC.rf I)
      · refine Zp.iload_n k_82_4 rfl ?_
        refine Zp.aload_n k_82_5 rfl ?_
        refine Zp.getR k_82_6 rfl (zlt rfl) m_0 r_0_0 ?_
        refine Zp.getR k_82_9 rfl (zlt rfl) m_1 r_1_2 ?_
        refine Zp.getV k_82_12 rfl (zlt rfl) m_9 pp.1 ?_
        refine Zp.icmp_geZ _ _ k_82_15 rfl (nI_toInt (by omega)) (fun c_15 => ?_) (fun c_15 => ?_)
        · refine Zp.iconst (-1) k_82_33 (by decide) ?_
          refine Zp.iret _ k_82_34 vr_82 rfl ?_
          exact hq I pc (FrC.rf I)
        · exfalso; omega
    · obtain ⟨m3, ⟨mp, xp⟩, m4, ms1, ms2, ms3, mk0, mk1, mi0, mi1, mt, mb, mf, mr, mh⟩ := id pm
      refine Zm.go [some (.ref _), some (.int _)] vl_176 rfl ?_
      refine Zp.iload_n k_176_0 rfl ?_
      refine Zp.i2l k_176_1 ?_
      refine Zp.lconst (lN 0) k_176_2 (by decide) ?_
      refine Zp.aload_n k_176_3 rfl ?_
      refine Zp.getR k_176_4 rfl (zlt rfl) m_93 r_93_0 ?_
      refine Zp.bipush (nI 36) k_176_7 (by decide) ?_
      refine Zp.iald _ k_176_9 m_94 rfl (by omega) (zlt rfl) (by first | exact mp.2.2.1 | exact mp.2.2.2.1 | exact mp.2.2.2.2.1 | exact mp.2.2.2.2.2.1 | exact mp.2.2.2.2.2.2 | exact xp.1 | exact xp.2.1 | exact xp.2.2.2.1 | exact xp.2.2.1 _ (by omega) | exact xp.2.2.2.2.2 _ (by omega) | exact xp.2.2.2.2.1 _ (by omega) | exact mp.hh (by omega) (by omega) | exact mp.kk (by omega) | exact mp.2.1 _ (by omega)) ?_
      refine Zp.iconst (nI 1) k_176_10 (by decide) ?_
      refine Zp.isub k_176_11 ?_
      refine Zp.i2l k_176_12 ?_
      refine Zp.calls3I vs_131 k_176_13 (Nat.le_of_ble_eq_true rfl) (Nat.le_of_ble_eq_true rfl) (c_in (zi2l _) (lN_z (by decide)) (zm1 (by omega)) ⟨_, rfl, ?_⟩)
      refine Zp.if_eqB k_176_16 (fun c_16 => ?_) (fun c_16 => absurd c_16 (by omega))
      refine Zp.iconst (-1) k_176_31 (by decide) ?_
      refine Zp.iret _ k_176_32 vr_176 rfl ?_
      first | exact hq I L pm (FrM.rf I) | exact hq I2 L pm2 (fun q hq => s2 q (by omega))
end TOLD
