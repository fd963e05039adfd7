/-! LOVE: both sides -/
theorem lN10 {v : Nat} (hv : v ≤ 10) : (nI 10 - nI v).toInt64 = lN (10 - v) := by rw [pk_sub (by omega), nL_i2l (by omega)]
section LOVE3
variable {G : zG} {A : zQs} {I : zI} {L : zJ} {Q : zP}
def lvW (p : Nat) (T : zSo) : Nat := if p = 1 then wN T else wD T
theorem lvW_le (p : Nat) (T : zSo) (h : So T) : lvW p T ≤ 999 := by unfold lvW; split; exact wN_le T h; exact wD_le T h
theorem c_byLove {v a b c p : Nat} (pc : PicC A I) (ho : Ao A) (hv : v ≤ 10) (ha : a < sn (kS (aK A))) (hb0 : b < sn (kS (aK A))) (hc : c < 2) (hp1 : p ≤ 1)
    (hq : ∀ I', (∀ q, q < 31 ∨ 33 < q → I' q = I q) → Q (some (.long (lN (lvA (lvS (lvW p) (kS (aK A)) a b v (stp (kS (aK A)) a b 12)) (stp (kS (aK A)) a b 12) c)))) I' L) : Zm G 116 [.ref 0, .int (nI v), .int (nI a), .int (nI b), .int (nI c), .int (nI p)] I L Q := by
  obtain ⟨⟨so, sz, sst, lo, po, eo⟩, ok0, ok1, oi0, oi1, ot, ob, of_, or_, oh⟩ := id ho
  obtain ⟨o1, o2, o3, o4, o5, o6, o7⟩ := id so
  obtain ⟨p1, p2, p3⟩ := id lo
  obtain ⟨u1, u2⟩ := id po
  obtain ⟨e1, e2⟩ := id eo
  obtain ⟨⟨hp, lp, pp, ep⟩, hk, hi0, hi1, ht, hb, hf, hr, hh⟩ := id pc
  have fin : ∀ m (I1 : zI), m ≤ 12 → stp (kS (aK A)) a b 12 = m → Sp I1 31 (aG (kS (aK A)) a b m) → (∀ q, q < 31 ∨ 33 < q → I1 q = I q) → Zp G 116 98 [some (.ref 0), some (.int (nI v)), some (.int (nI a)), some (.int (nI b)), some (.int (nI c)), some (.int (nI p)), some (.long (lN (lvC (lvW p) (kS (aK A)) a b v m))), none, some (.long (lN ((10 - v) ^ m))), none, some (.long (lN (10 ^ m))), none, some (.int (nI m)), none] [] I1 L Q := by
    intro m I1 hm he hs1 f1
    have ho1 := aG_o so a b m
    have hw := lvW_le p _ ho1
    have hS := lvS_le (lvW_le p) so a b v hv hm
    have h10 : 0 < 10 ^ m := Nat.pow_pos (by decide)
    have h12 : 10 ^ m ≤ 10 ^ 12 := Nat.pow_le_pow_right (by decide) hm
    have hgp : 0 < Nat.gcd (10 ^ m) (lvS (lvW p) (kS (aK A)) a b v m) := Nat.gcd_pos_of_pos_left _ h10
    have hgl : Nat.gcd (10 ^ m) (lvS (lvW p) (kS (aK A)) a b v m) ≤ 10 ^ m := Nat.gcd_le_left _ h10
    have hq1 := hq I1 f1
    rw [he] at hq1
    have es : lN (lvC (lvW p) (kS (aK A)) a b v m) + lN ((10 - v) ^ m) * (nI (lvW p (aG (kS (aK A)) a b m))).toInt64 = lN (lvS (lvW p) (kS (aK A)) a b v m) := by
      rw [nL_i2l (by omega), nL_mul, nL_add]
      rfl
    refine Zp.lload k_116_98 rfl ?_
    refine Zp.lload k_116_100 rfl ?_
    refine Zp.aload_n k_116_102 rfl ?_
    refine Zp.iload k_116_103 rfl ?_
    refine Zp.callv1I v_117 k_116_105 m_0 (Nat.le_of_ble_eq_true rfl) (Nat.le_of_ble_eq_true rfl) (c_worth hs1 ho1 hp1 ⟨_, rfl, ?_⟩)
    refine Zp.i2l k_116_108 ?_
    refine Zp.lmul k_116_109 ?_
    refine Zp.ladd k_116_110 ?_
    refine (show Zp G 116 111 _ [.long (lN (lvC (lvW p) (kS (aK A)) a b v m) + lN ((10 - v) ^ m) * (nI (lvW p (aG (kS (aK A)) a b m))).toInt64)] I1 L Q from ?_)
    rw [es]
    refine Zp.lstore [some (.ref _), some (.int _), some (.int _), some (.int _), some (.int _), some (.int _), some (.long _), none, some (.long _), none, some (.long _), none, some (.int _), none] k_116_111 (Nat.lt_of_lt_of_eq (zlt rfl : 6 + 1 < 14) vl_116.symm) rfl ?_
    refine Zp.lload k_116_113 rfl ?_
    refine Zp.lload k_116_115 rfl ?_
    refine Zp.calls2L vs_118 k_116_117 (Nat.le_of_ble_eq_true rfl) (Nat.le_of_ble_eq_true rfl) (c_gcd (by omega) (by omega) ⟨_, rfl, ?_⟩)
    refine Zp.lstore [some (.ref _), some (.int _), some (.int _), some (.int _), some (.int _), some (.int _), some (.long _), none, some (.long _), none, some (.long _), none, some (.long _), none] k_116_120 (Nat.lt_of_lt_of_eq (zlt rfl : 12 + 1 < 14) vl_116.symm) rfl ?_
    refine Zp.lload k_116_122 rfl ?_
    refine Zp.lconst (lN 1) k_116_124 (by decide) ?_
    refine Zp.lcmp k_116_125 ?_
    refine Zp.if_ge k_116_126 (fun c_126 => ?_) (fun c_126 => (by first | exact absurd c_126 ((lg_cmp_ge _ _).mpr (Int64.le_iff_toInt_le.mpr (by rw [lN_z (by omega), lN_z (by omega)]; omega))) | exact absurd ((lg_cmp_ge _ _).mpr (Int64.le_iff_toInt_le.mpr (by rw [lN_z (by omega), lN_z (by omega)]; omega))) c_126))
    refine Zp.iload k_116_133 rfl ?_
    refine Zp.if_neN k_116_135 (by omega) (fun c_135 => ?_) (fun c_135 => ?_)
    · refine Zp.lload k_116_146 rfl ?_
      refine Zp.lload k_116_148 rfl ?_
      refine Zp.ldiv k_116_150 (nL_ne hgp (by omega)) ?_
      refine Zp.lret k_116_151 vr_116 ?_
      first | (rw [show lvA _ _ c = _ from if_pos c_135] at hq1; rw [nL_div (by omega) hgp (by omega)]; exact hq1) | (rw [show lvA _ _ c = _ from if_neg c_135] at hq1; rw [nL_div (by omega) hgp (by omega)]; exact hq1)
    · refine Zp.lload k_116_138 rfl ?_
      refine Zp.lload k_116_140 rfl ?_
      refine Zp.ldiv k_116_142 (nL_ne hgp (by omega)) ?_
      refine Zp.goto k_116_143 ?_
      refine Zp.lret k_116_151 vr_116 ?_
      first | (rw [show lvA _ _ c = _ from if_pos c_135] at hq1; rw [nL_div (by omega) hgp (by omega)]; exact hq1) | (rw [show lvA _ _ c = _ from if_neg c_135] at hq1; rw [nL_div (by omega) hgp (by omega)]; exact hq1)
  have loop : ∀ k i (I1 : zI), i + k = 12 → stp (kS (aK A)) a b i = i → Sp I1 31 (aG (kS (aK A)) a b i) → (∀ q, q < 31 ∨ 33 < q → I1 q = I q) → Zp G 116 26 [some (.ref 0), some (.int (nI v)), some (.int (nI a)), some (.int (nI b)), some (.int (nI c)), some (.int (nI p)), some (.long (lN (lvC (lvW p) (kS (aK A)) a b v i))), none, some (.long (lN ((10 - v) ^ i))), none, some (.long (lN (10 ^ i))), none, some (.int (nI i)), none] [] I1 L Q := by
    intro k
    induction k with
    | zero =>
      intro i I1 hi he hs1 f1
      have e : i = 12 := by omega
      subst e
      refine Zp.iload k_116_26 rfl ?_
      refine Zp.bipush (nI 12) k_116_28 (by decide) ?_
      refine Zp.icmp_geN k_116_30 (by omega) (by omega) (fun c_30 => ?_) (fun c_30 => absurd c_30 (by omega))
      exact fin 12 I1 (by decide) he hs1 f1
    | succ k ih =>
      intro i I1 hi he hs1 f1
      obtain ⟨q1, q2, q3, q4, q5⟩ := aG_n (kS (aK A)) a b i
      have ho1 := aG_o so a b i
      have hw := lvW_le p _ ho1
      have e1' : lN 10 * lN (lvC (lvW p) (kS (aK A)) a b v i) + lN ((10 - v) ^ i) * (nI v).toInt64 * (nI (lvW p (aG (kS (aK A)) a b i))).toInt64 = lN (lvC (lvW p) (kS (aK A)) a b v (i + 1)) := by
        rw [nL_i2l (by omega), nL_i2l (by omega), nL_mul, nL_mul, nL_mul, nL_add]
        rfl
      have e2' : lN ((10 - v) ^ i) * (nI 10 - nI v).toInt64 = lN ((10 - v) ^ (i + 1)) := by rw [lN10 hv, nL_mul]; rfl
      have e3' : lN (10 ^ i) * lN 10 = lN (10 ^ (i + 1)) := by rw [nL_mul]; rfl
      refine Zp.iload k_116_26 rfl ?_
      refine Zp.bipush (nI 12) k_116_28 (by decide) ?_
      refine Zp.icmp_geN k_116_30 (by omega) (by omega) (fun c_30 => absurd c_30 (by omega)) (fun c_30 => ?_)
      refine Zp.aload_n k_116_33 rfl ?_
      refine Zp.getR k_116_34 rfl (zlt rfl) m_0 r_0_5 ?_
      refine Zp.callv0I v_62 k_116_37 m_31 (Nat.le_of_ble_eq_true rfl) (Nat.le_of_ble_eq_true rfl) (c_canBeStirred sa_31 hs1 ho1 (by omega) ⟨_, rfl, ?_⟩)
      refine Zp.if_eqB k_116_40 (fun c_40 => ?_) (fun c_40 => ?_)
      · exact fin i I1 (by omega) (by have := stp_stop he c_40 (k + 1); rw [hi] at this; exact this) hs1 f1
      · refine Zp.ldc2 (lN 10) k_116_43 (by decide) ?_
        refine Zp.lload k_116_46 rfl ?_
        refine Zp.lmul k_116_48 ?_
        refine Zp.lload k_116_49 rfl ?_
        refine Zp.iload_n k_116_51 rfl ?_
        refine Zp.i2l k_116_52 ?_
        refine Zp.lmul k_116_53 ?_
        refine Zp.aload_n k_116_54 rfl ?_
        refine Zp.iload k_116_55 rfl ?_
        refine Zp.callv1I v_117 k_116_57 m_0 (Nat.le_of_ble_eq_true rfl) (Nat.le_of_ble_eq_true rfl) (c_worth hs1 ho1 hp1 ⟨_, rfl, ?_⟩)
        refine Zp.i2l k_116_60 ?_
        refine Zp.lmul k_116_61 ?_
        refine Zp.ladd k_116_62 ?_
        refine (show Zp G 116 63 _ [.long (lN 10 * lN (lvC (lvW p) (kS (aK A)) a b v i) + lN ((10 - v) ^ i) * (nI v).toInt64 * (nI (lvW p (aG (kS (aK A)) a b i))).toInt64)] I1 L Q from ?_)
        rw [e1']
        refine Zp.lstore [some (.ref _), some (.int _), some (.int _), some (.int _), some (.int _), some (.int _), some (.long _), none, some (.long _), none, some (.long _), none, some (.int _), none] k_116_63 (Nat.lt_of_lt_of_eq (zlt rfl : 6 + 1 < 14) vl_116.symm) rfl ?_
        refine Zp.lload k_116_65 rfl ?_
        refine Zp.bipush (nI 10) k_116_67 (by decide) ?_
        refine Zp.iload_n k_116_69 rfl ?_
        refine Zp.isub k_116_70 ?_
        refine Zp.i2l k_116_71 ?_
        refine Zp.lmul k_116_72 ?_
        rw [e2']
        refine Zp.lstore [some (.ref _), some (.int _), some (.int _), some (.int _), some (.int _), some (.int _), some (.long _), none, some (.long _), none, some (.long _), none, some (.int _), none] k_116_73 (Nat.lt_of_lt_of_eq (zlt rfl : 8 + 1 < 14) vl_116.symm) rfl ?_
        refine Zp.lload k_116_75 rfl ?_
        refine Zp.ldc2 (lN 10) k_116_77 (by decide) ?_
        refine Zp.lmul k_116_80 ?_
        rw [e3']
        refine Zp.lstore [some (.ref _), some (.int _), some (.int _), some (.int _), some (.int _), some (.int _), some (.long _), none, some (.long _), none, some (.long _), none, some (.int _), none] k_116_81 (Nat.lt_of_lt_of_eq (zlt rfl : 10 + 1 < 14) vl_116.symm) rfl ?_
        refine Zp.aload_n k_116_83 rfl ?_
        refine Zp.getR k_116_84 rfl (zlt rfl) m_0 r_0_5 ?_
        refine Zp.iload_n k_116_87 rfl ?_
        refine Zp.iload_n k_116_88 rfl ?_
        refine Zp.callv2V v_63 k_116_89 m_31 (Nat.le_of_ble_eq_true rfl) (Nat.le_of_ble_eq_true rfl) (c_stirOnce sa_31 hs1 ho1 (by omega) (by omega) (by omega) (fun I2 hs2 f2 => ⟨rfl, ?_⟩))
        refine Zp.iinc (nI (_ + 1)) [some (.ref _), some (.int _), some (.int _), some (.int _), some (.int _), some (.int _), some (.long _), none, some (.long _), none, some (.long _), none, some (.int _), none] k_116_92 rfl (nI_1 _) (Nat.lt_of_lt_of_eq (zlt rfl : 12 < 14) vl_116.symm) rfl ?_
        refine Zp.goto k_116_95 ?_
        exact ih (i + 1) I2 (by omega) (stp_go he c_40) (by rw [aG_go c_40]; exact hs2) (fun q h => (f2 q (by omega) (by omega)).trans (f1 q h))
  refine Zm.go [some (.ref _), some (.int _), some (.int _), some (.int _), some (.int _), some (.int _), none, none, none, none, none, none, none, none] vl_116 rfl ?_
  refine Zp.aload_n k_116_0 rfl ?_
  refine Zp.getR k_116_1 rfl (zlt rfl) m_0 r_0_5 ?_
  refine Zp.aload_n k_116_4 rfl ?_
  refine Zp.getR k_116_5 rfl (zlt rfl) m_0 r_0_0 ?_
  refine Zp.getR k_116_8 rfl (zlt rfl) m_1 r_1_0 ?_
  refine Zp.callv1V v_55 k_116_11 m_31 (Nat.le_of_ble_eq_true rfl) (Nat.le_of_ble_eq_true rfl) (c_Soup_copyFrom sa_31 sa_2 (by omega) hp so (fun I2 hs2 f2 => ⟨rfl, ?_⟩))
  refine Zp.lconst (lN 0) k_116_14 (by decide) ?_
  refine Zp.lstore [some (.ref _), some (.int _), some (.int _), some (.int _), some (.int _), some (.int _), some (.long _), none, none, none, none, none, none, none] k_116_15 (Nat.lt_of_lt_of_eq (zlt rfl : 6 + 1 < 14) vl_116.symm) rfl ?_
  refine Zp.lconst (lN 1) k_116_17 (by decide) ?_
  refine Zp.lstore [some (.ref _), some (.int _), some (.int _), some (.int _), some (.int _), some (.int _), some (.long _), none, some (.long _), none, none, none, none, none] k_116_18 (Nat.lt_of_lt_of_eq (zlt rfl : 8 + 1 < 14) vl_116.symm) rfl ?_
  refine Zp.lconst (lN 1) k_116_20 (by decide) ?_
  refine Zp.lstore [some (.ref _), some (.int _), some (.int _), some (.int _), some (.int _), some (.int _), some (.long _), none, some (.long _), none, some (.long _), none, none, none] k_116_21 (Nat.lt_of_lt_of_eq (zlt rfl : 10 + 1 < 14) vl_116.symm) rfl ?_
  refine Zp.iconst (nI 0) k_116_23 (by decide) ?_
  refine Zp.istore [some (.ref _), some (.int _), some (.int _), some (.int _), some (.int _), some (.int _), some (.long _), none, some (.long _), none, some (.long _), none, some (.int _), none] k_116_24 (Nat.lt_of_lt_of_eq (zlt rfl : 12 < 14) vl_116.symm) rfl ?_
  exact loop 12 0 I2 (by decide) rfl hs2 (fun q h => f2 q (by omega) (by omega) (by omega))
end LOVE3
