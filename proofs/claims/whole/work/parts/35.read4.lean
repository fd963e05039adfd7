/-! READING A SHEET: both sides -/
section READ3
variable {G : zG} {A : zQs} {I : zI} {L : zJ} {Q : zP}
/-- the class's end: the trial becomes what is now -/
theorem c_readEndC {k lane n q m i : Nat} {x v : Int32} {S : zSo} {I1 : zI} (pc : PicC A I) (hq : q < 1000000) (hs : Sp I1 31 S) (hS : So S) (f1 : ∀ r, r < 31 ∨ 33 < r → I1 r = I r) (hQ : ∀ I', PicC (wR (wK A (S, (aK A).2)) m) I' → FrC I I' → Q (some (.int v)) I' L) :
    Zp G 126 170 [some (.ref 0), some (.int (nI k)), some (.int (nI lane)), some (.int x), some (.int (nI n)), some (.ref q), some (.int (nI m)), some (.int v), some (.int (nI i)), none] [] I1 L Q := by
  refine Zp.aload_n k_126_170 rfl ?_
  refine Zp.getR k_126_171 rfl (zlt rfl) m_0 r_0_0 ?_
  refine Zp.getR k_126_174 rfl (zlt rfl) m_1 r_1_0 ?_
  refine Zp.aload_n k_126_177 rfl ?_
  refine Zp.getR k_126_178 rfl (zlt rfl) m_0 r_0_5 ?_
  refine Zp.callv1V v_55 k_126_181 m_2 (Nat.le_of_ble_eq_true rfl) (Nat.le_of_ble_eq_true rfl) (c_Soup_copyFrom sa_2 sa_31 (by omega) hs hS (fun I2 hs2 f2 => ⟨rfl, ?_⟩))
  refine Zp.aload_n k_126_184 rfl ?_
  refine Zp.iload k_126_185 rfl ?_
  refine Zp.putI k_126_187 rfl (zlt rfl) m_0 ?_
  refine Zp.iload k_126_190 rfl ?_
  refine Zp.iret _ k_126_192 vr_126 rfl ?_
  exact hQ _ (((pc.try_ f1).soup hs2 (fun q a b c => f2 q a b c)).torn) (fun q h => by rw [zpu_q _ _ _ (by omega), f2 q (by omega) (by omega) (by omega), f1 q (by omega)])
theorem c_readEndM {k lane n m i : Nat} {x v : Int32} {B : zQs} (pm : PicM B I) (hQ : ∀ I', PicM (wR B m) I' → FrM I I' → Q (some (.int v)) I' L) :
    Zp G 226 250 [some (.ref 93), some (.int (nI k)), some (.int (nI lane)), some (.int x), some (.int (nI n)), some (.int (nI m)), some (.int v), some (.int (nI i)), none, none, none] [] I L Q := by
  refine Zp.aload_n k_226_250 rfl ?_
  refine Zp.iload k_226_251 rfl ?_
  refine Zp.putI k_226_253 rfl (zlt rfl) m_93 ?_
  refine Zp.iload k_226_256 rfl ?_
  refine Zp.iret _ k_226_258 vr_226 rfl ?_
  exact hQ _ pm.torn (fun q h => zpu_q _ _ _ (by omega))
end READ3
section READ4
variable {G : zG} {A : zQs} {x y z u : Int32}
theorem B_read (ho : Ao A) : zBoth G 126 226 [.int x, .int y, .int z, .int u] A := by
  obtain ⟨⟨so, sz, sst, lo, po, eo⟩, ok0, ok1, oi0, oi1, ot, ob, of_, or_, oh⟩ := id ho
  obtain ⟨o1, o2, o3, o4, o5, o6, o7⟩ := id so
  obtain ⟨p1, p2, p3⟩ := id lo
  obtain ⟨u1, u2⟩ := id po
  obtain ⟨e1, e2⟩ := id eo
  by_cases v : 0 ≤ x.toInt ∧ x.toInt ≤ 3
  · by_cases w : 0 ≤ y.toInt ∧ y.toInt ≤ 2
    · by_cases t : 0 ≤ u.toInt ∧ u.toInt ≤ 12
      · obtain ⟨k, hk4, rfl, ek⟩ := zin_nI (n := 4) v.1 (by omega)
        obtain ⟨ln, hl, rfl, el⟩ := zin_nI (n := 3) w.1 (by omega)
        obtain ⟨n, hn, rfl, en⟩ := zin_nI (n := 13) t.1 (by omega)
        have h8 := sh_at k hk4
        have oh1 := oh k hk4
        by_cases n0 : n = 0
        · subst n0
          refine ⟨.int (nI 0), wR A 0, ho.torn (by decide), fun I L Q pc hq => ?_, fun I L Q pm hq => ?_⟩
          · obtain ⟨⟨hp, lp, pp, ep⟩, hk, hi0, hi1, ht, hb, hf, hr, hh⟩ := id pc
            refine Zm.go [some (.ref _), some (.int _), some (.int _), some (.int _), some (.int _), none, none, none, none, none] vl_126 rfl ?_
            refine Zp.iload_n k_126_0 rfl ?_
            refine Zp.iconst (nI 0) k_126_1 (by decide) ?_
            refine Zp.iconst (nI 3) k_126_2 (by decide) ?_
            refine Zp.calls3I vs_129 k_126_3 (Nat.le_of_ble_eq_true rfl) (Nat.le_of_ble_eq_true rfl) (c_isWithin (nI_toInt (by omega)) (nI_toInt (by omega)) (nI_toInt (by omega)) ⟨_, rfl, ?_⟩)
            refine Zp.if_eqB k_126_6 (fun c_6 => absurd c_6 (by omega)) (fun c_6 => ?_)
            refine Zp.iload_n k_126_9 rfl ?_
            refine Zp.iconst (nI 0) k_126_10 (by decide) ?_
            refine Zp.iconst (nI 2) k_126_11 (by decide) ?_
            refine Zp.calls3I vs_129 k_126_12 (Nat.le_of_ble_eq_true rfl) (Nat.le_of_ble_eq_true rfl) (c_isWithin (nI_toInt (by omega)) (nI_toInt (by omega)) (nI_toInt (by omega)) ⟨_, rfl, ?_⟩)
            refine Zp.if_eqB k_126_15 (fun c_15 => absurd c_15 (by omega)) (fun c_15 => ?_)
            refine Zp.iload k_126_18 rfl ?_
            refine Zp.iconst (nI 0) k_126_20 (by decide) ?_
            refine Zp.bipush (nI 12) k_126_21 (by decide) ?_
            refine Zp.calls3I vs_129 k_126_23 (Nat.le_of_ble_eq_true rfl) (Nat.le_of_ble_eq_true rfl) (c_isWithin (nI_toInt (by omega)) (nI_toInt (by omega)) (nI_toInt (by omega)) ⟨_, rfl, ?_⟩)
            refine Zp.if_neB k_126_26 (fun c_26 => ?_) (fun c_26 => absurd c_26 (by omega))
            refine Zp.aload_n k_126_31 rfl ?_
            refine Zp.getR k_126_32 rfl (zlt rfl) m_0 r_0_8 ?_
            refine Zp.iload_n k_126_35 rfl ?_
            refine Zp.aald k k_126_36 m_58 (by decide) rfl (by omega) (zlt rfl) h8.1 ?_
            refine Zp.astore [some (.ref _), some (.int _), some (.int _), some (.int _), some (.int _), some (.ref _), none, none, none, none] (by omega) k_126_37 (Nat.lt_of_lt_of_eq (zlt rfl : 5 < 10) vl_126.symm) rfl ?_
            refine Zp.iload k_126_39 rfl ?_
            refine Zp.if_neN k_126_41 (by omega) (fun c => absurd c (by decide)) (fun _ => ?_)
            refine Zp.iconst (nI 0) k_126_44 (by decide) ?_
            refine Zp.goto k_126_45 ?_
            refine Zp.istore [some (.ref _), some (.int _), some (.int _), some (.int _), some (.int _), some (.ref _), some (.int _), none, none, none] k_126_54 (Nat.lt_of_lt_of_eq (zlt rfl : 6 < 10) vl_126.symm) rfl ?_
            refine Zp.iconst (nI 0) k_126_56 (by decide) ?_
            refine Zp.istore [some (.ref _), some (.int _), some (.int _), some (.int _), some (.int _), some (.ref _), some (.int _), some (.int _), none, none] k_126_57 (Nat.lt_of_lt_of_eq (zlt rfl : 7 < 10) vl_126.symm) rfl ?_
            refine Zp.aload_n k_126_59 rfl ?_
            refine Zp.getR k_126_60 rfl (zlt rfl) m_0 r_0_5 ?_
            refine Zp.aload_n k_126_63 rfl ?_
            refine Zp.getR k_126_64 rfl (zlt rfl) m_0 r_0_0 ?_
            refine Zp.getR k_126_67 rfl (zlt rfl) m_1 r_1_0 ?_
            refine Zp.callv1V v_55 k_126_70 m_31 (Nat.le_of_ble_eq_true rfl) (Nat.le_of_ble_eq_true rfl) (c_Soup_copyFrom sa_31 sa_2 (by omega) hp so (fun I2 hs2 f2 => ⟨rfl, ?_⟩))
            refine Zp.iconst (nI 0) k_126_73 (by decide) ?_
            refine Zp.istore [some (.ref _), some (.int _), some (.int _), some (.int _), some (.int _), some (.ref _), some (.int _), some (.int _), some (.int _), none] k_126_74 (Nat.lt_of_lt_of_eq (zlt rfl : 8 < 10) vl_126.symm) rfl ?_
            refine Zp.iload k_126_76 rfl ?_
            refine Zp.iload k_126_78 rfl ?_
            refine Zp.icmp_geN k_126_80 (by omega) (by omega) (fun c_80 => ?_) (fun c_80 => absurd c_80 (by omega))
            exact c_readEndC pc (by omega) hs2 so (fun r h => f2 r (by omega) (by omega) (by omega)) hq
          · obtain ⟨m3, ⟨mp, xp⟩, m4, ms1, ms2, ms3, mk0, mk1, mi0, mi1, mt, mb, mf, mr, mh⟩ := id pm
            refine Zm.go [some (.ref _), some (.int _), some (.int _), some (.int _), some (.int _), none, none, none, none, none, none] vl_226 rfl ?_
            refine Zp.iload_n k_226_0 rfl ?_
            refine Zp.iload_n k_226_1 rfl ?_
            refine Zp.calls2I vs_223 k_226_2 (Nat.le_of_ble_eq_true rfl) (Nat.le_of_ble_eq_true rfl) (c_isSheetM (nI_toInt (by omega)) (nI_toInt (by omega)) ⟨_, rfl, ?_⟩)
            refine Zp.if_eqB k_226_5 (fun c_5 => absurd c_5 (by omega)) (fun c_5 => ?_)
            refine Zp.iload k_226_8 rfl ?_
            refine Zp.i2l k_226_10 ?_
            refine Zp.lconst (lN 0) k_226_11 (by decide) ?_
            refine Zp.ldc2 (lN 12) k_226_12 (by decide) ?_
            refine Zp.calls3I vs_131 k_226_15 (Nat.le_of_ble_eq_true rfl) (Nat.le_of_ble_eq_true rfl) (c_in (zi2n (by omega)) (lN_z (by decide)) (lN_z (by decide)) ⟨_, rfl, ?_⟩)
            refine Zp.if_neB k_226_18 (fun c_18 => ?_) (fun c_18 => absurd c_18 (by omega))
            refine Zp.iconst (nI 0) k_226_23 (by decide) ?_
            refine Zp.istore [some (.ref _), some (.int _), some (.int _), some (.int _), some (.int _), some (.int _), none, none, none, none, none] k_226_24 (Nat.lt_of_lt_of_eq (zlt rfl : 5 < 11) vl_226.symm) rfl ?_
            refine c_readHad (fun I2 g1 g2 => ?_) 58 0 I (by omega) (fun j hj => absurd hj (Nat.not_lt_zero j)) (fun _ _ => rfl)
            have pm2 : PicM A I2 := pm.fr (by rw [g2 93 (by decide)]) (by rw [g2 93 (by decide)]) (by rw [g2 93 (by decide)]) (by rw [g2 93 (by decide)]) (by rw [g2 93 (by decide)]) (fun q h => g2 q (by omega))
            have f2 : FrM I I2 := fun q h => g2 q (by omega)
            refine Zp.iconst (nI 0) k_226_53 (by decide) ?_
            refine Zp.istore [some (.ref _), some (.int _), some (.int _), some (.int _), some (.int _), some (.int _), none, none, none, none, none] k_226_54 (Nat.lt_of_lt_of_eq (zlt rfl : 5 < 11) vl_226.symm) rfl ?_
            refine Zp.iconst (nI 0) k_226_56 (by decide) ?_
            refine Zp.istore [some (.ref _), some (.int _), some (.int _), some (.int _), some (.int _), some (.int _), some (.int _), none, none, none, none] k_226_57 (Nat.lt_of_lt_of_eq (zlt rfl : 6 < 11) vl_226.symm) rfl ?_
            refine Zp.iconst (nI 0) k_226_59 (by decide) ?_
            refine Zp.istore [some (.ref _), some (.int _), some (.int _), some (.int _), some (.int _), some (.int _), some (.int _), some (.int _), none, none, none] k_226_60 (Nat.lt_of_lt_of_eq (zlt rfl : 7 < 11) vl_226.symm) rfl ?_
            refine Zp.iload k_226_62 rfl ?_
            refine Zp.iload k_226_64 rfl ?_
            refine Zp.icmp_geN k_226_66 (by omega) (by omega) (fun c_66 => ?_) (fun c_66 => absurd c_66 (by omega))
            exact c_readEndM pm2 (fun I3 p3 f3 => hq I3 _ p3 (fun q h => (f3 q h).trans (f2 q h)))
        · by_cases s0 : (aH A k).1 = 0
          · refine ⟨.int (nI 0), wR A 1, ho.torn (by decide), fun I L Q pc hq => ?_, fun I L Q pm hq => ?_⟩
            · obtain ⟨⟨hp, lp, pp, ep⟩, hk, hi0, hi1, ht, hb, hf, hr, hh⟩ := id pc
              have h0 := hh k hk4
              refine Zm.go [some (.ref _), some (.int _), some (.int _), some (.int _), some (.int _), none, none, none, none, none] vl_126 rfl ?_
              refine Zp.iload_n k_126_0 rfl ?_
              refine Zp.iconst (nI 0) k_126_1 (by decide) ?_
              refine Zp.iconst (nI 3) k_126_2 (by decide) ?_
              refine Zp.calls3I vs_129 k_126_3 (Nat.le_of_ble_eq_true rfl) (Nat.le_of_ble_eq_true rfl) (c_isWithin (nI_toInt (by omega)) (nI_toInt (by omega)) (nI_toInt (by omega)) ⟨_, rfl, ?_⟩)
              refine Zp.if_eqB k_126_6 (fun c_6 => absurd c_6 (by omega)) (fun c_6 => ?_)
              refine Zp.iload_n k_126_9 rfl ?_
              refine Zp.iconst (nI 0) k_126_10 (by decide) ?_
              refine Zp.iconst (nI 2) k_126_11 (by decide) ?_
              refine Zp.calls3I vs_129 k_126_12 (Nat.le_of_ble_eq_true rfl) (Nat.le_of_ble_eq_true rfl) (c_isWithin (nI_toInt (by omega)) (nI_toInt (by omega)) (nI_toInt (by omega)) ⟨_, rfl, ?_⟩)
              refine Zp.if_eqB k_126_15 (fun c_15 => absurd c_15 (by omega)) (fun c_15 => ?_)
              refine Zp.iload k_126_18 rfl ?_
              refine Zp.iconst (nI 0) k_126_20 (by decide) ?_
              refine Zp.bipush (nI 12) k_126_21 (by decide) ?_
              refine Zp.calls3I vs_129 k_126_23 (Nat.le_of_ble_eq_true rfl) (Nat.le_of_ble_eq_true rfl) (c_isWithin (nI_toInt (by omega)) (nI_toInt (by omega)) (nI_toInt (by omega)) ⟨_, rfl, ?_⟩)
              refine Zp.if_neB k_126_26 (fun c_26 => ?_) (fun c_26 => absurd c_26 (by omega))
              refine Zp.aload_n k_126_31 rfl ?_
              refine Zp.getR k_126_32 rfl (zlt rfl) m_0 r_0_8 ?_
              refine Zp.iload_n k_126_35 rfl ?_
              refine Zp.aald k k_126_36 m_58 (by decide) rfl (by omega) (zlt rfl) h8.1 ?_
              refine Zp.astore [some (.ref _), some (.int _), some (.int _), some (.int _), some (.int _), some (.ref _), none, none, none, none] (by omega) k_126_37 (Nat.lt_of_lt_of_eq (zlt rfl : 5 < 10) vl_126.symm) rfl ?_
              refine Zp.iload k_126_39 rfl ?_
              refine Zp.if_neN k_126_41 (by omega) (fun c_41 => ?_) (fun c_41 => absurd c_41 (by omega))
              refine Zp.aload (by omega) k_126_48 rfl ?_
              refine Zp.iload_n k_126_50 rfl ?_
              refine Zp.callv1I v_46 k_126_51 h8.2.1 (Nat.le_of_ble_eq_true rfl) (Nat.le_of_ble_eq_true rfl) (c_faultAsNo h8.2.1 (h0.1 s0) ⟨_, rfl, ?_⟩)
              refine Zp.istore [some (.ref _), some (.int _), some (.int _), some (.int _), some (.int _), some (.ref _), some (.int _), none, none, none] k_126_54 (Nat.lt_of_lt_of_eq (zlt rfl : 6 < 10) vl_126.symm) rfl ?_
              refine Zp.iconst (nI 0) k_126_56 (by decide) ?_
              refine Zp.istore [some (.ref _), some (.int _), some (.int _), some (.int _), some (.int _), some (.ref _), some (.int _), some (.int _), none, none] k_126_57 (Nat.lt_of_lt_of_eq (zlt rfl : 7 < 10) vl_126.symm) rfl ?_
              refine Zp.aload_n k_126_59 rfl ?_
              refine Zp.getR k_126_60 rfl (zlt rfl) m_0 r_0_5 ?_
              refine Zp.aload_n k_126_63 rfl ?_
              refine Zp.getR k_126_64 rfl (zlt rfl) m_0 r_0_0 ?_
              refine Zp.getR k_126_67 rfl (zlt rfl) m_1 r_1_0 ?_
              refine Zp.callv1V v_55 k_126_70 m_31 (Nat.le_of_ble_eq_true rfl) (Nat.le_of_ble_eq_true rfl) (c_Soup_copyFrom sa_31 sa_2 (by omega) hp so (fun I2 hs2 f2 => ⟨rfl, ?_⟩))
              refine Zp.iconst (nI 0) k_126_73 (by decide) ?_
              refine Zp.istore [some (.ref _), some (.int _), some (.int _), some (.int _), some (.int _), some (.ref _), some (.int _), some (.int _), some (.int _), none] k_126_74 (Nat.lt_of_lt_of_eq (zlt rfl : 8 < 10) vl_126.symm) rfl ?_
              refine Zp.iload k_126_76 rfl ?_
              refine Zp.iload k_126_78 rfl ?_
              refine Zp.icmp_geN k_126_80 (by omega) (by omega) (fun c_80 => absurd c_80 (by omega)) (fun c_80 => ?_)
              refine Zp.iload k_126_83 rfl ?_
              refine Zp.if_neN k_126_85 (by omega) (fun _ => ?_) (fun c => absurd c (by decide))
              exact c_readEndC pc (by omega) hs2 so (fun r h => f2 r (by omega) (by omega) (by omega)) hq
            · obtain ⟨m3, ⟨mp, xp⟩, m4, ms1, ms2, ms3, mk0, mk1, mi0, mi1, mt, mb, mf, mr, mh⟩ := id pm
              have h0 := (mh k hk4).1 s0
              refine Zm.go [some (.ref _), some (.int _), some (.int _), some (.int _), some (.int _), none, none, none, none, none, none] vl_226 rfl ?_
              refine Zp.iload_n k_226_0 rfl ?_
              refine Zp.iload_n k_226_1 rfl ?_
              refine Zp.calls2I vs_223 k_226_2 (Nat.le_of_ble_eq_true rfl) (Nat.le_of_ble_eq_true rfl) (c_isSheetM (nI_toInt (by omega)) (nI_toInt (by omega)) ⟨_, rfl, ?_⟩)
              refine Zp.if_eqB k_226_5 (fun c_5 => absurd c_5 (by omega)) (fun c_5 => ?_)
              refine Zp.iload k_226_8 rfl ?_
              refine Zp.i2l k_226_10 ?_
              refine Zp.lconst (lN 0) k_226_11 (by decide) ?_
              refine Zp.ldc2 (lN 12) k_226_12 (by decide) ?_
              refine Zp.calls3I vs_131 k_226_15 (Nat.le_of_ble_eq_true rfl) (Nat.le_of_ble_eq_true rfl) (c_in (zi2n (by omega)) (lN_z (by decide)) (lN_z (by decide)) ⟨_, rfl, ?_⟩)
              refine Zp.if_neB k_226_18 (fun c_18 => ?_) (fun c_18 => absurd c_18 (by omega))
              refine Zp.iconst (nI 0) k_226_23 (by decide) ?_
              refine Zp.istore [some (.ref _), some (.int _), some (.int _), some (.int _), some (.int _), some (.int _), none, none, none, none, none] k_226_24 (Nat.lt_of_lt_of_eq (zlt rfl : 5 < 11) vl_226.symm) rfl ?_
              refine c_readHad (fun I2 g1 g2 => ?_) 58 0 I (by omega) (fun j hj => absurd hj (Nat.not_lt_zero j)) (fun _ _ => rfl)
              have pm2 : PicM A I2 := pm.fr (by rw [g2 93 (by decide)]) (by rw [g2 93 (by decide)]) (by rw [g2 93 (by decide)]) (by rw [g2 93 (by decide)]) (by rw [g2 93 (by decide)]) (fun q h => g2 q (by omega))
              have f2 : FrM I I2 := fun q h => g2 q (by omega)
              have h1 : I2 107 k = -4 := by rw [g2 107 (by decide)]; exact h0
              have fin : ∀ i c, Zp G 226 250 [some (.ref 93), some (.int (nI k)), some (.int (nI ln)), some (.int z), some (.int (nI n)), some (.int (nI 1)), some (.int (nI 0)), some (.int (nI i)), some (.int (nI c)), none, none] [] I2 L Q := fun i c => Zp.locs _ (zle_sub (by simp [zle])) (c_readEndM (k := k) (lane := ln) (n := n) (x := z) (i := i) pm2 (fun I3 p3 f3 => hq I3 _ p3 (fun q h => (f3 q h).trans (f2 q h))))
              refine Zp.iconst (nI 0) k_226_53 (by decide) ?_
              refine Zp.istore [some (.ref _), some (.int _), some (.int _), some (.int _), some (.int _), some (.int _), none, none, none, none, none] k_226_54 (Nat.lt_of_lt_of_eq (zlt rfl : 5 < 11) vl_226.symm) rfl ?_
              refine Zp.iconst (nI 0) k_226_56 (by decide) ?_
              refine Zp.istore [some (.ref _), some (.int _), some (.int _), some (.int _), some (.int _), some (.int _), some (.int _), none, none, none, none] k_226_57 (Nat.lt_of_lt_of_eq (zlt rfl : 6 < 11) vl_226.symm) rfl ?_
              refine Zp.iconst (nI 0) k_226_59 (by decide) ?_
              refine Zp.istore [some (.ref _), some (.int _), some (.int _), some (.int _), some (.int _), some (.int _), some (.int _), some (.int _), none, none, none] k_226_60 (Nat.lt_of_lt_of_eq (zlt rfl : 7 < 11) vl_226.symm) rfl ?_
              refine Zp.iload k_226_62 rfl ?_
              refine Zp.iload k_226_64 rfl ?_
              refine Zp.icmp_geN k_226_66 (by omega) (by omega) (fun c_66 => absurd c_66 (by omega)) (fun c_66 => ?_)
              refine Zp.iload k_226_69 rfl ?_
              refine Zp.if_neN k_226_71 (by omega) (fun c => absurd c (by decide)) (fun _ => ?_)
              refine Zp.iconst (nI 0) k_226_74 (by decide) ?_
              refine Zp.istore [some (.ref _), some (.int _), some (.int _), some (.int _), some (.int _), some (.int _), some (.int _), some (.int _), some (.int _), none, none] k_226_75 (Nat.lt_of_lt_of_eq (zlt rfl : 8 < 11) vl_226.symm) rfl ?_
              refine Zp.iload k_226_77 rfl ?_
              refine Zp.iconst (nI 2) k_226_79 (by decide) ?_
              refine Zp.icmp_geN k_226_80 (by omega) (by omega) (fun c_80 => absurd c_80 (by omega)) (fun c_80 => ?_)
              refine Zp.iload k_226_83 rfl ?_
              refine Zp.if_neN k_226_85 (by omega) (fun c => absurd c (by decide)) (fun _ => ?_)
              refine Zp.iload_n k_226_88 rfl ?_
              refine Zp.i2l k_226_89 ?_
              refine Zp.iconst (nI 2) k_226_90 (by decide) ?_
              refine Zp.iload k_226_91 rfl ?_
              refine Zp.imulN k_226_93 ?_
              refine Zp.i2l k_226_94 ?_
              refine Zp.ladd k_226_95 ?_
              refine Zp.iload k_226_96 rfl ?_
              refine Zp.i2l k_226_98 ?_
              refine Zp.ladd k_226_99 ?_
              refine Zp.lstore [some (.ref _), some (.int _), some (.int _), some (.int _), some (.int _), some (.int _), some (.int _), some (.int _), some (.int _), some (.long _), none] k_226_100 (Nat.lt_of_lt_of_eq (zlt rfl : 9 + 1 < 11) vl_226.symm) rfl ?_
              refine Zp.aload_n k_226_102 rfl ?_
              refine Zp.getR k_226_103 rfl (zlt rfl) m_93 r_93_31 ?_
              refine Zp.iload_n k_226_106 rfl ?_
              refine Zp.iald _ k_226_107 m_107 rfl (by omega) (zlt rfl) h1 ?_
              refine Zp.bipush (-4) k_226_108 (by decide) ?_
              refine Zp.icmp_neZ (-4) (-4) k_226_110 (by decide) (by decide) (fun c_110 => absurd c_110 (by omega)) (fun c_110 => ?_)
              refine Zp.iconst (nI 1) k_226_113 (by decide) ?_
              refine Zp.goto k_226_114 ?_
              refine Zp.istore [some (.ref _), some (.int _), some (.int _), some (.int _), some (.int _), some (.int _), some (.int _), some (.int _), some (.int _), some (.long _), none] k_226_156 (Nat.lt_of_lt_of_eq (zlt rfl : 5 < 11) vl_226.symm) rfl ?_
              refine Zp.iinc (nI (_ + 1)) [some (.ref _), some (.int _), some (.int _), some (.int _), some (.int _), some (.int _), some (.int _), some (.int _), some (.int _), some (.long _), none] k_226_158 rfl (nI_1 _) (Nat.lt_of_lt_of_eq (zlt rfl : 8 < 11) vl_226.symm) rfl ?_
              refine Zp.goto k_226_161 ?_
              refine Zp.iload k_226_77 rfl ?_
              refine Zp.iconst (nI 2) k_226_79 (by decide) ?_
              refine Zp.icmp_geN k_226_80 (by omega) (by omega) (fun c_80 => absurd c_80 (by omega)) (fun c_80 => ?_)
              refine Zp.iload k_226_83 rfl ?_
              refine Zp.if_neN k_226_85 (by omega) (fun _ => ?_) (fun c => absurd c (by decide))
              refine Zp.iload k_226_164 rfl ?_
              refine Zp.if_neN k_226_166 (by omega) (fun _ => ?_) (fun c => absurd c (by decide))
              refine Zp.iinc (nI (_ + 1)) [some (.ref _), some (.int _), some (.int _), some (.int _), some (.int _), some (.int _), some (.int _), some (.int _), some (.int _), some (.long _), none] k_226_244 rfl (nI_1 _) (Nat.lt_of_lt_of_eq (zlt rfl : 7 < 11) vl_226.symm) rfl ?_
              refine Zp.goto k_226_247 ?_
              refine Zp.iload k_226_62 rfl ?_
              refine Zp.iload k_226_64 rfl ?_
              refine Zp.icmp_geN k_226_66 (by omega) (by omega) (fun c_66 => ?_) (fun c_66 => ?_)
              · exact Zp.locs _ (zle_sub (by simp [zle])) (fin 1 1)
              · refine Zp.iload k_226_69 rfl ?_
                refine Zp.if_neN k_226_71 (by omega) (fun _ => ?_) (fun c => absurd c (by decide))
                exact Zp.locs _ (zle_sub (by simp [zle])) (fin 1 1)
          · by_cases s1 : (aH A k).1 = ln + 1
            · rcases rr : rdR (aH A k).2.2 (aH A k).2.1 z.toInt n 0 (kS (aK A)) with ⟨vv, m, o⟩
              cases o with
              | none =>
                refine ⟨.int vv, A, ho, fun I L Q pc hq => ?_, fun I L Q pm hq => ?_⟩
                · obtain ⟨⟨hp, lp, pp, ep⟩, hk, hi0, hi1, ht, hb, hf, hr, hh⟩ := id pc
                  have h0 := (hh k hk4).2 s0
                  rw [s1, Nat.add_sub_cancel, show 86 + 2 * k = 85 + 2 * k + 1 by omega] at h0
                  refine Zm.go [some (.ref _), some (.int _), some (.int _), some (.int _), some (.int _), none, none, none, none, none] vl_126 rfl ?_
                  refine Zp.iload_n k_126_0 rfl ?_
                  refine Zp.iconst (nI 0) k_126_1 (by decide) ?_
                  refine Zp.iconst (nI 3) k_126_2 (by decide) ?_
                  refine Zp.calls3I vs_129 k_126_3 (Nat.le_of_ble_eq_true rfl) (Nat.le_of_ble_eq_true rfl) (c_isWithin (nI_toInt (by omega)) (nI_toInt (by omega)) (nI_toInt (by omega)) ⟨_, rfl, ?_⟩)
                  refine Zp.if_eqB k_126_6 (fun c_6 => absurd c_6 (by omega)) (fun c_6 => ?_)
                  refine Zp.iload_n k_126_9 rfl ?_
                  refine Zp.iconst (nI 0) k_126_10 (by decide) ?_
                  refine Zp.iconst (nI 2) k_126_11 (by decide) ?_
                  refine Zp.calls3I vs_129 k_126_12 (Nat.le_of_ble_eq_true rfl) (Nat.le_of_ble_eq_true rfl) (c_isWithin (nI_toInt (by omega)) (nI_toInt (by omega)) (nI_toInt (by omega)) ⟨_, rfl, ?_⟩)
                  refine Zp.if_eqB k_126_15 (fun c_15 => absurd c_15 (by omega)) (fun c_15 => ?_)
                  refine Zp.iload k_126_18 rfl ?_
                  refine Zp.iconst (nI 0) k_126_20 (by decide) ?_
                  refine Zp.bipush (nI 12) k_126_21 (by decide) ?_
                  refine Zp.calls3I vs_129 k_126_23 (Nat.le_of_ble_eq_true rfl) (Nat.le_of_ble_eq_true rfl) (c_isWithin (nI_toInt (by omega)) (nI_toInt (by omega)) (nI_toInt (by omega)) ⟨_, rfl, ?_⟩)
                  refine Zp.if_neB k_126_26 (fun c_26 => ?_) (fun c_26 => absurd c_26 (by omega))
                  refine Zp.aload_n k_126_31 rfl ?_
                  refine Zp.getR k_126_32 rfl (zlt rfl) m_0 r_0_8 ?_
                  refine Zp.iload_n k_126_35 rfl ?_
                  refine Zp.aald k k_126_36 m_58 (by decide) rfl (by omega) (zlt rfl) h8.1 ?_
                  refine Zp.astore [some (.ref _), some (.int _), some (.int _), some (.int _), some (.int _), some (.ref _), none, none, none, none] (by omega) k_126_37 (Nat.lt_of_lt_of_eq (zlt rfl : 5 < 10) vl_126.symm) rfl ?_
                  refine Zp.iload k_126_39 rfl ?_
                  refine Zp.if_neN k_126_41 (by omega) (fun c_41 => ?_) (fun c_41 => absurd c_41 (by omega))
                  refine Zp.aload (by omega) k_126_48 rfl ?_
                  refine Zp.iload_n k_126_50 rfl ?_
                  refine Zp.callv1I v_46 k_126_51 h8.2.1 (Nat.le_of_ble_eq_true rfl) (Nat.le_of_ble_eq_true rfl) (c_faultAs h8.2.1 h0.1 (by omega) h0.2.1 (by omega) (by omega) ⟨_, rfl, ?_⟩)
                  rw [if_pos rfl]
                  refine Zp.istore [some (.ref _), some (.int _), some (.int _), some (.int _), some (.int _), some (.ref _), some (.int _), none, none, none] k_126_54 (Nat.lt_of_lt_of_eq (zlt rfl : 6 < 10) vl_126.symm) rfl ?_
                  refine Zp.iconst (nI 0) k_126_56 (by decide) ?_
                  refine Zp.istore [some (.ref _), some (.int _), some (.int _), some (.int _), some (.int _), some (.ref _), some (.int _), some (.int _), none, none] k_126_57 (Nat.lt_of_lt_of_eq (zlt rfl : 7 < 10) vl_126.symm) rfl ?_
                  refine Zp.aload_n k_126_59 rfl ?_
                  refine Zp.getR k_126_60 rfl (zlt rfl) m_0 r_0_5 ?_
                  refine Zp.aload_n k_126_63 rfl ?_
                  refine Zp.getR k_126_64 rfl (zlt rfl) m_0 r_0_0 ?_
                  refine Zp.getR k_126_67 rfl (zlt rfl) m_1 r_1_0 ?_
                  refine Zp.callv1V v_55 k_126_70 m_31 (Nat.le_of_ble_eq_true rfl) (Nat.le_of_ble_eq_true rfl) (c_Soup_copyFrom sa_31 sa_2 (by omega) hp so (fun I2 hs2 f2 => ⟨rfl, ?_⟩))
                  refine Zp.iconst (nI 0) k_126_73 (by decide) ?_
                  refine Zp.istore [some (.ref _), some (.int _), some (.int _), some (.int _), some (.int _), some (.ref _), some (.int _), some (.int _), some (.int _), none] k_126_74 (Nat.lt_of_lt_of_eq (zlt rfl : 8 < 10) vl_126.symm) rfl ?_
                  exact c_readLoop h8.2.1 h8.2.2.1 h8.2.2.2 (by omega) (by omega) h0.1 oh1.2 h0.2.2 (by omega) n 0 (kS (aK A)) I2 (by omega) so (by omega) hs2 (fun r h => f2 r (by omega) (by omega) (by omega)) (fun v m S' i' I3 h => absurd (rr.symm.trans h) (by simp)) (fun v m I3 h f3 => by
                    rw [rr] at h
                    cases h
                    exact hq I3 (pc.try_ f3) (fun q h => f3 q (by omega)))
                · obtain ⟨m3, ⟨mp, xp⟩, m4, ms1, ms2, ms3, mk0, mk1, mi0, mi1, mt, mb, mf, mr, mh⟩ := id pm
                  refine Zm.go [some (.ref _), some (.int _), some (.int _), some (.int _), some (.int _), none, none, none, none, none, none] vl_226 rfl ?_
                  refine Zp.iload_n k_226_0 rfl ?_
                  refine Zp.iload_n k_226_1 rfl ?_
                  refine Zp.calls2I vs_223 k_226_2 (Nat.le_of_ble_eq_true rfl) (Nat.le_of_ble_eq_true rfl) (c_isSheetM (nI_toInt (by omega)) (nI_toInt (by omega)) ⟨_, rfl, ?_⟩)
                  refine Zp.if_eqB k_226_5 (fun c_5 => absurd c_5 (by omega)) (fun c_5 => ?_)
                  refine Zp.iload k_226_8 rfl ?_
                  refine Zp.i2l k_226_10 ?_
                  refine Zp.lconst (lN 0) k_226_11 (by decide) ?_
                  refine Zp.ldc2 (lN 12) k_226_12 (by decide) ?_
                  refine Zp.calls3I vs_131 k_226_15 (Nat.le_of_ble_eq_true rfl) (Nat.le_of_ble_eq_true rfl) (c_in (zi2n (by omega)) (lN_z (by decide)) (lN_z (by decide)) ⟨_, rfl, ?_⟩)
                  refine Zp.if_neB k_226_18 (fun c_18 => ?_) (fun c_18 => absurd c_18 (by omega))
                  refine Zp.iconst (nI 0) k_226_23 (by decide) ?_
                  refine Zp.istore [some (.ref _), some (.int _), some (.int _), some (.int _), some (.int _), some (.int _), none, none, none, none, none] k_226_24 (Nat.lt_of_lt_of_eq (zlt rfl : 5 < 11) vl_226.symm) rfl ?_
                  refine c_readHad (fun I2 g1 g2 => ?_) 58 0 I (by omega) (fun j hj => absurd hj (Nat.not_lt_zero j)) (fun _ _ => rfl)
                  have pm2 : PicM A I2 := pm.fr (by rw [g2 93 (by decide)]) (by rw [g2 93 (by decide)]) (by rw [g2 93 (by decide)]) (by rw [g2 93 (by decide)]) (by rw [g2 93 (by decide)]) (fun q h => g2 q (by omega))
                  have f2 : FrM I I2 := fun q h => g2 q (by omega)
                  refine Zp.iconst (nI 0) k_226_53 (by decide) ?_
                  refine Zp.istore [some (.ref _), some (.int _), some (.int _), some (.int _), some (.int _), some (.int _), none, none, none, none, none] k_226_54 (Nat.lt_of_lt_of_eq (zlt rfl : 5 < 11) vl_226.symm) rfl ?_
                  refine Zp.iconst (nI 0) k_226_56 (by decide) ?_
                  refine Zp.istore [some (.ref _), some (.int _), some (.int _), some (.int _), some (.int _), some (.int _), some (.int _), none, none, none, none] k_226_57 (Nat.lt_of_lt_of_eq (zlt rfl : 6 < 11) vl_226.symm) rfl ?_
                  refine Zp.iconst (nI 0) k_226_59 (by decide) ?_
                  refine Zp.istore [some (.ref _), some (.int _), some (.int _), some (.int _), some (.int _), some (.int _), some (.int _), some (.int _), none, none, none] k_226_60 (Nat.lt_of_lt_of_eq (zlt rfl : 7 < 11) vl_226.symm) rfl ?_
                  exact c_readLoopM pm2 ho hk4 hl s1 (by omega) n 0 (kS (aK A)) I2 (by omega) rfl pm2 ho (FrM.rf I2) (fun j hj => by rw [g1 j hj, g2 94 (by decide)]) (fun v m S' i' I3 h => absurd (rr.symm.trans h) (by simp)) (fun v m I3 h p3 f3 => by
                    rw [rr] at h
                    cases h
                    exact hq I3 _ p3 (fun q h => (f3 q h).trans (f2 q h)))
              | some S' =>
                obtain ⟨r1, r2, r3, r4, r5⟩ := rdR_ok n 0 (kS (aK A)) rr so sz sst
                refine ⟨.int vv, wR (wK A (S', (aK A).2)) m, (ho.now (K := (S', (aK A).2)) (ho.1.uS r1 r2 r3 r4) (Kl.uS r3)).torn (by omega), fun I L Q pc hq => ?_, fun I L Q pm hq => ?_⟩
                · obtain ⟨⟨hp, lp, pp, ep⟩, hk, hi0, hi1, ht, hb, hf, hr, hh⟩ := id pc
                  have h0 := (hh k hk4).2 s0
                  rw [s1, Nat.add_sub_cancel, show 86 + 2 * k = 85 + 2 * k + 1 by omega] at h0
                  refine Zm.go [some (.ref _), some (.int _), some (.int _), some (.int _), some (.int _), none, none, none, none, none] vl_126 rfl ?_
                  refine Zp.iload_n k_126_0 rfl ?_
                  refine Zp.iconst (nI 0) k_126_1 (by decide) ?_
                  refine Zp.iconst (nI 3) k_126_2 (by decide) ?_
                  refine Zp.calls3I vs_129 k_126_3 (Nat.le_of_ble_eq_true rfl) (Nat.le_of_ble_eq_true rfl) (c_isWithin (nI_toInt (by omega)) (nI_toInt (by omega)) (nI_toInt (by omega)) ⟨_, rfl, ?_⟩)
                  refine Zp.if_eqB k_126_6 (fun c_6 => absurd c_6 (by omega)) (fun c_6 => ?_)
                  refine Zp.iload_n k_126_9 rfl ?_
                  refine Zp.iconst (nI 0) k_126_10 (by decide) ?_
                  refine Zp.iconst (nI 2) k_126_11 (by decide) ?_
                  refine Zp.calls3I vs_129 k_126_12 (Nat.le_of_ble_eq_true rfl) (Nat.le_of_ble_eq_true rfl) (c_isWithin (nI_toInt (by omega)) (nI_toInt (by omega)) (nI_toInt (by omega)) ⟨_, rfl, ?_⟩)
                  refine Zp.if_eqB k_126_15 (fun c_15 => absurd c_15 (by omega)) (fun c_15 => ?_)
                  refine Zp.iload k_126_18 rfl ?_
                  refine Zp.iconst (nI 0) k_126_20 (by decide) ?_
                  refine Zp.bipush (nI 12) k_126_21 (by decide) ?_
                  refine Zp.calls3I vs_129 k_126_23 (Nat.le_of_ble_eq_true rfl) (Nat.le_of_ble_eq_true rfl) (c_isWithin (nI_toInt (by omega)) (nI_toInt (by omega)) (nI_toInt (by omega)) ⟨_, rfl, ?_⟩)
                  refine Zp.if_neB k_126_26 (fun c_26 => ?_) (fun c_26 => absurd c_26 (by omega))
                  refine Zp.aload_n k_126_31 rfl ?_
                  refine Zp.getR k_126_32 rfl (zlt rfl) m_0 r_0_8 ?_
                  refine Zp.iload_n k_126_35 rfl ?_
                  refine Zp.aald k k_126_36 m_58 (by decide) rfl (by omega) (zlt rfl) h8.1 ?_
                  refine Zp.astore [some (.ref _), some (.int _), some (.int _), some (.int _), some (.int _), some (.ref _), none, none, none, none] (by omega) k_126_37 (Nat.lt_of_lt_of_eq (zlt rfl : 5 < 10) vl_126.symm) rfl ?_
                  refine Zp.iload k_126_39 rfl ?_
                  refine Zp.if_neN k_126_41 (by omega) (fun c_41 => ?_) (fun c_41 => absurd c_41 (by omega))
                  refine Zp.aload (by omega) k_126_48 rfl ?_
                  refine Zp.iload_n k_126_50 rfl ?_
                  refine Zp.callv1I v_46 k_126_51 h8.2.1 (Nat.le_of_ble_eq_true rfl) (Nat.le_of_ble_eq_true rfl) (c_faultAs h8.2.1 h0.1 (by omega) h0.2.1 (by omega) (by omega) ⟨_, rfl, ?_⟩)
                  rw [if_pos rfl]
                  refine Zp.istore [some (.ref _), some (.int _), some (.int _), some (.int _), some (.int _), some (.ref _), some (.int _), none, none, none] k_126_54 (Nat.lt_of_lt_of_eq (zlt rfl : 6 < 10) vl_126.symm) rfl ?_
                  refine Zp.iconst (nI 0) k_126_56 (by decide) ?_
                  refine Zp.istore [some (.ref _), some (.int _), some (.int _), some (.int _), some (.int _), some (.ref _), some (.int _), some (.int _), none, none] k_126_57 (Nat.lt_of_lt_of_eq (zlt rfl : 7 < 10) vl_126.symm) rfl ?_
                  refine Zp.aload_n k_126_59 rfl ?_
                  refine Zp.getR k_126_60 rfl (zlt rfl) m_0 r_0_5 ?_
                  refine Zp.aload_n k_126_63 rfl ?_
                  refine Zp.getR k_126_64 rfl (zlt rfl) m_0 r_0_0 ?_
                  refine Zp.getR k_126_67 rfl (zlt rfl) m_1 r_1_0 ?_
                  refine Zp.callv1V v_55 k_126_70 m_31 (Nat.le_of_ble_eq_true rfl) (Nat.le_of_ble_eq_true rfl) (c_Soup_copyFrom sa_31 sa_2 (by omega) hp so (fun I2 hs2 f2 => ⟨rfl, ?_⟩))
                  refine Zp.iconst (nI 0) k_126_73 (by decide) ?_
                  refine Zp.istore [some (.ref _), some (.int _), some (.int _), some (.int _), some (.int _), some (.ref _), some (.int _), some (.int _), some (.int _), none] k_126_74 (Nat.lt_of_lt_of_eq (zlt rfl : 8 < 10) vl_126.symm) rfl ?_
                  exact c_readLoop h8.2.1 h8.2.2.1 h8.2.2.2 (by omega) (by omega) h0.1 oh1.2 h0.2.2 (by omega) n 0 (kS (aK A)) I2 (by omega) so (by omega) hs2 (fun r h => f2 r (by omega) (by omega) (by omega)) (fun v m S' i' I3 h hs3 f3 => by
                    rw [rr] at h
                    cases h
                    exact c_readEndC pc (by omega) hs3 r1 f3 hq) (fun v m I3 h => absurd (rr.symm.trans h) (by simp))
                · obtain ⟨m3, ⟨mp, xp⟩, m4, ms1, ms2, ms3, mk0, mk1, mi0, mi1, mt, mb, mf, mr, mh⟩ := id pm
                  refine Zm.go [some (.ref _), some (.int _), some (.int _), some (.int _), some (.int _), none, none, none, none, none, none] vl_226 rfl ?_
                  refine Zp.iload_n k_226_0 rfl ?_
                  refine Zp.iload_n k_226_1 rfl ?_
                  refine Zp.calls2I vs_223 k_226_2 (Nat.le_of_ble_eq_true rfl) (Nat.le_of_ble_eq_true rfl) (c_isSheetM (nI_toInt (by omega)) (nI_toInt (by omega)) ⟨_, rfl, ?_⟩)
                  refine Zp.if_eqB k_226_5 (fun c_5 => absurd c_5 (by omega)) (fun c_5 => ?_)
                  refine Zp.iload k_226_8 rfl ?_
                  refine Zp.i2l k_226_10 ?_
                  refine Zp.lconst (lN 0) k_226_11 (by decide) ?_
                  refine Zp.ldc2 (lN 12) k_226_12 (by decide) ?_
                  refine Zp.calls3I vs_131 k_226_15 (Nat.le_of_ble_eq_true rfl) (Nat.le_of_ble_eq_true rfl) (c_in (zi2n (by omega)) (lN_z (by decide)) (lN_z (by decide)) ⟨_, rfl, ?_⟩)
                  refine Zp.if_neB k_226_18 (fun c_18 => ?_) (fun c_18 => absurd c_18 (by omega))
                  refine Zp.iconst (nI 0) k_226_23 (by decide) ?_
                  refine Zp.istore [some (.ref _), some (.int _), some (.int _), some (.int _), some (.int _), some (.int _), none, none, none, none, none] k_226_24 (Nat.lt_of_lt_of_eq (zlt rfl : 5 < 11) vl_226.symm) rfl ?_
                  refine c_readHad (fun I2 g1 g2 => ?_) 58 0 I (by omega) (fun j hj => absurd hj (Nat.not_lt_zero j)) (fun _ _ => rfl)
                  have pm2 : PicM A I2 := pm.fr (by rw [g2 93 (by decide)]) (by rw [g2 93 (by decide)]) (by rw [g2 93 (by decide)]) (by rw [g2 93 (by decide)]) (by rw [g2 93 (by decide)]) (fun q h => g2 q (by omega))
                  have f2 : FrM I I2 := fun q h => g2 q (by omega)
                  refine Zp.iconst (nI 0) k_226_53 (by decide) ?_
                  refine Zp.istore [some (.ref _), some (.int _), some (.int _), some (.int _), some (.int _), some (.int _), none, none, none, none, none] k_226_54 (Nat.lt_of_lt_of_eq (zlt rfl : 5 < 11) vl_226.symm) rfl ?_
                  refine Zp.iconst (nI 0) k_226_56 (by decide) ?_
                  refine Zp.istore [some (.ref _), some (.int _), some (.int _), some (.int _), some (.int _), some (.int _), some (.int _), none, none, none, none] k_226_57 (Nat.lt_of_lt_of_eq (zlt rfl : 6 < 11) vl_226.symm) rfl ?_
                  refine Zp.iconst (nI 0) k_226_59 (by decide) ?_
                  refine Zp.istore [some (.ref _), some (.int _), some (.int _), some (.int _), some (.int _), some (.int _), some (.int _), some (.int _), none, none, none] k_226_60 (Nat.lt_of_lt_of_eq (zlt rfl : 7 < 11) vl_226.symm) rfl ?_
                  exact c_readLoopM pm2 ho hk4 hl s1 (by omega) n 0 (kS (aK A)) I2 (by omega) rfl pm2 ho (FrM.rf I2) (fun j hj => by rw [g1 j hj, g2 94 (by decide)]) (fun v m S' i' I3 h p3 f3 => by
                    rw [rr] at h
                    cases h
                    exact c_readEndM p3 (fun I4 p4 f4 => hq I4 _ p4 (fun q h => (f4 q h).trans ((f3 q h).trans (f2 q h))))) (fun v m I3 h => absurd (rr.symm.trans h) (by simp))
            · refine ⟨.int (nI 0), wR A 3, ho.torn (by decide), fun I L Q pc hq => ?_, fun I L Q pm hq => ?_⟩
              · obtain ⟨⟨hp, lp, pp, ep⟩, hk, hi0, hi1, ht, hb, hf, hr, hh⟩ := id pc
                have h0 := (hh k hk4).2 s0
                refine Zm.go [some (.ref _), some (.int _), some (.int _), some (.int _), some (.int _), none, none, none, none, none] vl_126 rfl ?_
                refine Zp.iload_n k_126_0 rfl ?_
                refine Zp.iconst (nI 0) k_126_1 (by decide) ?_
                refine Zp.iconst (nI 3) k_126_2 (by decide) ?_
                refine Zp.calls3I vs_129 k_126_3 (Nat.le_of_ble_eq_true rfl) (Nat.le_of_ble_eq_true rfl) (c_isWithin (nI_toInt (by omega)) (nI_toInt (by omega)) (nI_toInt (by omega)) ⟨_, rfl, ?_⟩)
                refine Zp.if_eqB k_126_6 (fun c_6 => absurd c_6 (by omega)) (fun c_6 => ?_)
                refine Zp.iload_n k_126_9 rfl ?_
                refine Zp.iconst (nI 0) k_126_10 (by decide) ?_
                refine Zp.iconst (nI 2) k_126_11 (by decide) ?_
                refine Zp.calls3I vs_129 k_126_12 (Nat.le_of_ble_eq_true rfl) (Nat.le_of_ble_eq_true rfl) (c_isWithin (nI_toInt (by omega)) (nI_toInt (by omega)) (nI_toInt (by omega)) ⟨_, rfl, ?_⟩)
                refine Zp.if_eqB k_126_15 (fun c_15 => absurd c_15 (by omega)) (fun c_15 => ?_)
                refine Zp.iload k_126_18 rfl ?_
                refine Zp.iconst (nI 0) k_126_20 (by decide) ?_
                refine Zp.bipush (nI 12) k_126_21 (by decide) ?_
                refine Zp.calls3I vs_129 k_126_23 (Nat.le_of_ble_eq_true rfl) (Nat.le_of_ble_eq_true rfl) (c_isWithin (nI_toInt (by omega)) (nI_toInt (by omega)) (nI_toInt (by omega)) ⟨_, rfl, ?_⟩)
                refine Zp.if_neB k_126_26 (fun c_26 => ?_) (fun c_26 => absurd c_26 (by omega))
                refine Zp.aload_n k_126_31 rfl ?_
                refine Zp.getR k_126_32 rfl (zlt rfl) m_0 r_0_8 ?_
                refine Zp.iload_n k_126_35 rfl ?_
                refine Zp.aald k k_126_36 m_58 (by decide) rfl (by omega) (zlt rfl) h8.1 ?_
                refine Zp.astore [some (.ref _), some (.int _), some (.int _), some (.int _), some (.int _), some (.ref _), none, none, none, none] (by omega) k_126_37 (Nat.lt_of_lt_of_eq (zlt rfl : 5 < 10) vl_126.symm) rfl ?_
                refine Zp.iload k_126_39 rfl ?_
                refine Zp.if_neN k_126_41 (by omega) (fun c_41 => ?_) (fun c_41 => absurd c_41 (by omega))
                refine Zp.aload (by omega) k_126_48 rfl ?_
                refine Zp.iload_n k_126_50 rfl ?_
                refine Zp.callv1I v_46 k_126_51 h8.2.1 (Nat.le_of_ble_eq_true rfl) (Nat.le_of_ble_eq_true rfl) (c_faultAs h8.2.1 h0.1 (by omega) h0.2.1 (by omega) (by omega) ⟨_, rfl, ?_⟩)
                rw [if_neg (by omega)]
                refine Zp.istore [some (.ref _), some (.int _), some (.int _), some (.int _), some (.int _), some (.ref _), some (.int _), none, none, none] k_126_54 (Nat.lt_of_lt_of_eq (zlt rfl : 6 < 10) vl_126.symm) rfl ?_
                refine Zp.iconst (nI 0) k_126_56 (by decide) ?_
                refine Zp.istore [some (.ref _), some (.int _), some (.int _), some (.int _), some (.int _), some (.ref _), some (.int _), some (.int _), none, none] k_126_57 (Nat.lt_of_lt_of_eq (zlt rfl : 7 < 10) vl_126.symm) rfl ?_
                refine Zp.aload_n k_126_59 rfl ?_
                refine Zp.getR k_126_60 rfl (zlt rfl) m_0 r_0_5 ?_
                refine Zp.aload_n k_126_63 rfl ?_
                refine Zp.getR k_126_64 rfl (zlt rfl) m_0 r_0_0 ?_
                refine Zp.getR k_126_67 rfl (zlt rfl) m_1 r_1_0 ?_
                refine Zp.callv1V v_55 k_126_70 m_31 (Nat.le_of_ble_eq_true rfl) (Nat.le_of_ble_eq_true rfl) (c_Soup_copyFrom sa_31 sa_2 (by omega) hp so (fun I2 hs2 f2 => ⟨rfl, ?_⟩))
                refine Zp.iconst (nI 0) k_126_73 (by decide) ?_
                refine Zp.istore [some (.ref _), some (.int _), some (.int _), some (.int _), some (.int _), some (.ref _), some (.int _), some (.int _), some (.int _), none] k_126_74 (Nat.lt_of_lt_of_eq (zlt rfl : 8 < 10) vl_126.symm) rfl ?_
                refine Zp.iload k_126_76 rfl ?_
                refine Zp.iload k_126_78 rfl ?_
                refine Zp.icmp_geN k_126_80 (by omega) (by omega) (fun c_80 => absurd c_80 (by omega)) (fun c_80 => ?_)
                refine Zp.iload k_126_83 rfl ?_
                refine Zp.if_neN k_126_85 (by omega) (fun _ => ?_) (fun c => absurd c (by decide))
                exact c_readEndC pc (by omega) hs2 so (fun r h => f2 r (by omega) (by omega) (by omega)) hq
              · obtain ⟨m3, ⟨mp, xp⟩, m4, ms1, ms2, ms3, mk0, mk1, mi0, mi1, mt, mb, mf, mr, mh⟩ := id pm
                have h0 := ((mh k hk4).2 s0).1
                refine Zm.go [some (.ref _), some (.int _), some (.int _), some (.int _), some (.int _), none, none, none, none, none, none] vl_226 rfl ?_
                refine Zp.iload_n k_226_0 rfl ?_
                refine Zp.iload_n k_226_1 rfl ?_
                refine Zp.calls2I vs_223 k_226_2 (Nat.le_of_ble_eq_true rfl) (Nat.le_of_ble_eq_true rfl) (c_isSheetM (nI_toInt (by omega)) (nI_toInt (by omega)) ⟨_, rfl, ?_⟩)
                refine Zp.if_eqB k_226_5 (fun c_5 => absurd c_5 (by omega)) (fun c_5 => ?_)
                refine Zp.iload k_226_8 rfl ?_
                refine Zp.i2l k_226_10 ?_
                refine Zp.lconst (lN 0) k_226_11 (by decide) ?_
                refine Zp.ldc2 (lN 12) k_226_12 (by decide) ?_
                refine Zp.calls3I vs_131 k_226_15 (Nat.le_of_ble_eq_true rfl) (Nat.le_of_ble_eq_true rfl) (c_in (zi2n (by omega)) (lN_z (by decide)) (lN_z (by decide)) ⟨_, rfl, ?_⟩)
                refine Zp.if_neB k_226_18 (fun c_18 => ?_) (fun c_18 => absurd c_18 (by omega))
                refine Zp.iconst (nI 0) k_226_23 (by decide) ?_
                refine Zp.istore [some (.ref _), some (.int _), some (.int _), some (.int _), some (.int _), some (.int _), none, none, none, none, none] k_226_24 (Nat.lt_of_lt_of_eq (zlt rfl : 5 < 11) vl_226.symm) rfl ?_
                refine c_readHad (fun I2 g1 g2 => ?_) 58 0 I (by omega) (fun j hj => absurd hj (Nat.not_lt_zero j)) (fun _ _ => rfl)
                have pm2 : PicM A I2 := pm.fr (by rw [g2 93 (by decide)]) (by rw [g2 93 (by decide)]) (by rw [g2 93 (by decide)]) (by rw [g2 93 (by decide)]) (by rw [g2 93 (by decide)]) (fun q h => g2 q (by omega))
                have f2 : FrM I I2 := fun q h => g2 q (by omega)
                have h1 : I2 107 k = nI ((aH A k).1 - 1) := by rw [g2 107 (by decide)]; exact h0
                have fin : ∀ i c, Zp G 226 250 [some (.ref 93), some (.int (nI k)), some (.int (nI ln)), some (.int z), some (.int (nI n)), some (.int (nI 3)), some (.int (nI 0)), some (.int (nI i)), some (.int (nI c)), none, none] [] I2 L Q := fun i c => Zp.locs _ (zle_sub (by simp [zle])) (c_readEndM (k := k) (lane := ln) (n := n) (x := z) (i := i) pm2 (fun I3 p3 f3 => hq I3 _ p3 (fun q h => (f3 q h).trans (f2 q h))))
                refine Zp.iconst (nI 0) k_226_53 (by decide) ?_
                refine Zp.istore [some (.ref _), some (.int _), some (.int _), some (.int _), some (.int _), some (.int _), none, none, none, none, none] k_226_54 (Nat.lt_of_lt_of_eq (zlt rfl : 5 < 11) vl_226.symm) rfl ?_
                refine Zp.iconst (nI 0) k_226_56 (by decide) ?_
                refine Zp.istore [some (.ref _), some (.int _), some (.int _), some (.int _), some (.int _), some (.int _), some (.int _), none, none, none, none] k_226_57 (Nat.lt_of_lt_of_eq (zlt rfl : 6 < 11) vl_226.symm) rfl ?_
                refine Zp.iconst (nI 0) k_226_59 (by decide) ?_
                refine Zp.istore [some (.ref _), some (.int _), some (.int _), some (.int _), some (.int _), some (.int _), some (.int _), some (.int _), none, none, none] k_226_60 (Nat.lt_of_lt_of_eq (zlt rfl : 7 < 11) vl_226.symm) rfl ?_
                refine Zp.iload k_226_62 rfl ?_
                refine Zp.iload k_226_64 rfl ?_
                refine Zp.icmp_geN k_226_66 (by omega) (by omega) (fun c_66 => absurd c_66 (by omega)) (fun c_66 => ?_)
                refine Zp.iload k_226_69 rfl ?_
                refine Zp.if_neN k_226_71 (by omega) (fun c => absurd c (by decide)) (fun _ => ?_)
                refine Zp.iconst (nI 0) k_226_74 (by decide) ?_
                refine Zp.istore [some (.ref _), some (.int _), some (.int _), some (.int _), some (.int _), some (.int _), some (.int _), some (.int _), some (.int _), none, none] k_226_75 (Nat.lt_of_lt_of_eq (zlt rfl : 8 < 11) vl_226.symm) rfl ?_
                refine Zp.iload k_226_77 rfl ?_
                refine Zp.iconst (nI 2) k_226_79 (by decide) ?_
                refine Zp.icmp_geN k_226_80 (by omega) (by omega) (fun c_80 => absurd c_80 (by omega)) (fun c_80 => ?_)
                refine Zp.iload k_226_83 rfl ?_
                refine Zp.if_neN k_226_85 (by omega) (fun c => absurd c (by decide)) (fun _ => ?_)
                refine Zp.iload_n k_226_88 rfl ?_
                refine Zp.i2l k_226_89 ?_
                refine Zp.iconst (nI 2) k_226_90 (by decide) ?_
                refine Zp.iload k_226_91 rfl ?_
                refine Zp.imulN k_226_93 ?_
                refine Zp.i2l k_226_94 ?_
                refine Zp.ladd k_226_95 ?_
                refine Zp.iload k_226_96 rfl ?_
                refine Zp.i2l k_226_98 ?_
                refine Zp.ladd k_226_99 ?_
                refine Zp.lstore [some (.ref _), some (.int _), some (.int _), some (.int _), some (.int _), some (.int _), some (.int _), some (.int _), some (.int _), some (.long _), none] k_226_100 (Nat.lt_of_lt_of_eq (zlt rfl : 9 + 1 < 11) vl_226.symm) rfl ?_
                refine Zp.aload_n k_226_102 rfl ?_
                refine Zp.getR k_226_103 rfl (zlt rfl) m_93 r_93_31 ?_
                refine Zp.iload_n k_226_106 rfl ?_
                refine Zp.iald _ k_226_107 m_107 rfl (by omega) (zlt rfl) h1 ?_
                refine Zp.bipush (-4) k_226_108 (by decide) ?_
                refine Zp.icmp_neZ _ (-4) k_226_110 (nI_toInt (by omega)) (by decide) (fun c_110 => ?_) (fun c_110 => absurd c_110 (by omega))
                refine Zp.aload_n k_226_117 rfl ?_
                refine Zp.getR k_226_118 rfl (zlt rfl) m_93 r_93_31 ?_
                refine Zp.iload_n k_226_121 rfl ?_
                refine Zp.iald _ k_226_122 m_107 rfl (by omega) (zlt rfl) h1 ?_
                refine Zp.iload_n k_226_123 rfl ?_
                refine Zp.icmp_eqN k_226_124 (by omega) (by omega) (fun c_124 => absurd c_124 (by omega)) (fun c_124 => ?_)
                refine Zp.iconst (nI 3) k_226_127 (by decide) ?_
                refine Zp.goto k_226_128 ?_
                refine Zp.istore [some (.ref _), some (.int _), some (.int _), some (.int _), some (.int _), some (.int _), some (.int _), some (.int _), some (.int _), some (.long _), none] k_226_156 (Nat.lt_of_lt_of_eq (zlt rfl : 5 < 11) vl_226.symm) rfl ?_
                refine Zp.iinc (nI (_ + 1)) [some (.ref _), some (.int _), some (.int _), some (.int _), some (.int _), some (.int _), some (.int _), some (.int _), some (.int _), some (.long _), none] k_226_158 rfl (nI_1 _) (Nat.lt_of_lt_of_eq (zlt rfl : 8 < 11) vl_226.symm) rfl ?_
                refine Zp.goto k_226_161 ?_
                refine Zp.iload k_226_77 rfl ?_
                refine Zp.iconst (nI 2) k_226_79 (by decide) ?_
                refine Zp.icmp_geN k_226_80 (by omega) (by omega) (fun c_80 => absurd c_80 (by omega)) (fun c_80 => ?_)
                refine Zp.iload k_226_83 rfl ?_
                refine Zp.if_neN k_226_85 (by omega) (fun _ => ?_) (fun c => absurd c (by decide))
                refine Zp.iload k_226_164 rfl ?_
                refine Zp.if_neN k_226_166 (by omega) (fun _ => ?_) (fun c => absurd c (by decide))
                refine Zp.iinc (nI (_ + 1)) [some (.ref _), some (.int _), some (.int _), some (.int _), some (.int _), some (.int _), some (.int _), some (.int _), some (.int _), some (.long _), none] k_226_244 rfl (nI_1 _) (Nat.lt_of_lt_of_eq (zlt rfl : 7 < 11) vl_226.symm) rfl ?_
                refine Zp.goto k_226_247 ?_
                refine Zp.iload k_226_62 rfl ?_
                refine Zp.iload k_226_64 rfl ?_
                refine Zp.icmp_geN k_226_66 (by omega) (by omega) (fun c_66 => ?_) (fun c_66 => ?_)
                · exact Zp.locs _ (zle_sub (by simp [zle])) (fin 1 1)
                · refine Zp.iload k_226_69 rfl ?_
                  refine Zp.if_neN k_226_71 (by omega) (fun _ => ?_) (fun c => absurd c (by decide))
                  exact Zp.locs _ (zle_sub (by simp [zle])) (fin 1 1)
      · refine ⟨.int (-1), A, ho, fun I L Q pc hq => ?_, fun I L Q pm hq => ?_⟩
        · obtain ⟨⟨hp, lp, pp, ep⟩, hk, hi0, hi1, ht, hb, hf, hr, hh⟩ := id pc
          refine Zm.go [some (.ref _), some (.int _), some (.int _), some (.int _), some (.int _), none, none, none, none, none] vl_126 rfl ?_
          refine Zp.iload_n k_126_0 rfl ?_
          refine Zp.iconst (nI 0) k_126_1 (by decide) ?_
          refine Zp.iconst (nI 3) k_126_2 (by decide) ?_
          refine Zp.calls3I vs_129 k_126_3 (Nat.le_of_ble_eq_true rfl) (Nat.le_of_ble_eq_true rfl) (c_isWithin rfl (nI_toInt (by omega)) (nI_toInt (by omega)) ⟨_, rfl, ?_⟩)
          refine Zp.if_eqB k_126_6 (fun c_6 => absurd c_6 (by omega)) (fun c_6 => ?_)
          refine Zp.iload_n k_126_9 rfl ?_
          refine Zp.iconst (nI 0) k_126_10 (by decide) ?_
          refine Zp.iconst (nI 2) k_126_11 (by decide) ?_
          refine Zp.calls3I vs_129 k_126_12 (Nat.le_of_ble_eq_true rfl) (Nat.le_of_ble_eq_true rfl) (c_isWithin rfl (nI_toInt (by omega)) (nI_toInt (by omega)) ⟨_, rfl, ?_⟩)
          refine Zp.if_eqB k_126_15 (fun c_15 => absurd c_15 (by omega)) (fun c_15 => ?_)
          refine Zp.iload k_126_18 rfl ?_
          refine Zp.iconst (nI 0) k_126_20 (by decide) ?_
          refine Zp.bipush (nI 12) k_126_21 (by decide) ?_
          refine Zp.calls3I vs_129 k_126_23 (Nat.le_of_ble_eq_true rfl) (Nat.le_of_ble_eq_true rfl) (c_isWithin rfl (nI_toInt (by omega)) (nI_toInt (by omega)) ⟨_, rfl, ?_⟩)
          refine Zp.if_neB k_126_26 (fun c_26 => absurd c_26 (by omega)) (fun c_26 => ?_)
          refine Zp.iconst (-1) k_126_29 (by decide) ?_
          refine Zp.iret _ k_126_30 vr_126 rfl ?_
          exact hq I pc (FrC.rf I)
        · obtain ⟨m3, ⟨mp, xp⟩, m4, ms1, ms2, ms3, mk0, mk1, mi0, mi1, mt, mb, mf, mr, mh⟩ := id pm
          refine Zm.go [some (.ref _), some (.int _), some (.int _), some (.int _), some (.int _), none, none, none, none, none, none] vl_226 rfl ?_
          refine Zp.iload_n k_226_0 rfl ?_
          refine Zp.iload_n k_226_1 rfl ?_
          refine Zp.calls2I vs_223 k_226_2 (Nat.le_of_ble_eq_true rfl) (Nat.le_of_ble_eq_true rfl) (c_isSheetM rfl rfl ⟨_, rfl, ?_⟩)
          refine Zp.if_eqB k_226_5 (fun c_5 => absurd c_5 (by omega)) (fun c_5 => ?_)
          refine Zp.iload k_226_8 rfl ?_
          refine Zp.i2l k_226_10 ?_
          refine Zp.lconst (lN 0) k_226_11 (by decide) ?_
          refine Zp.ldc2 (lN 12) k_226_12 (by decide) ?_
          refine Zp.calls3I vs_131 k_226_15 (Nat.le_of_ble_eq_true rfl) (Nat.le_of_ble_eq_true rfl) (c_in (zi2l _) (lN_z (by decide)) (lN_z (by decide)) ⟨_, rfl, ?_⟩)
          refine Zp.if_neB k_226_18 (fun c_18 => absurd c_18 (by omega)) (fun c_18 => ?_)
          refine Zp.iconst (-1) k_226_21 (by decide) ?_
          refine Zp.iret _ k_226_22 vr_226 rfl ?_
          first | exact hq I L pm (FrM.rf I) | exact hq I2 L pm2 (fun q hq => s2 q (by omega))
    · refine ⟨.int (-1), A, ho, fun I L Q pc hq => ?_, fun I L Q pm hq => ?_⟩
      · obtain ⟨⟨hp, lp, pp, ep⟩, hk, hi0, hi1, ht, hb, hf, hr, hh⟩ := id pc
        refine Zm.go [some (.ref _), some (.int _), some (.int _), some (.int _), some (.int _), none, none, none, none, none] vl_126 rfl ?_
        refine Zp.iload_n k_126_0 rfl ?_
        refine Zp.iconst (nI 0) k_126_1 (by decide) ?_
        refine Zp.iconst (nI 3) k_126_2 (by decide) ?_
        refine Zp.calls3I vs_129 k_126_3 (Nat.le_of_ble_eq_true rfl) (Nat.le_of_ble_eq_true rfl) (c_isWithin rfl (nI_toInt (by omega)) (nI_toInt (by omega)) ⟨_, rfl, ?_⟩)
        refine Zp.if_eqB k_126_6 (fun c_6 => absurd c_6 (by omega)) (fun c_6 => ?_)
        refine Zp.iload_n k_126_9 rfl ?_
        refine Zp.iconst (nI 0) k_126_10 (by decide) ?_
        refine Zp.iconst (nI 2) k_126_11 (by decide) ?_
        refine Zp.calls3I vs_129 k_126_12 (Nat.le_of_ble_eq_true rfl) (Nat.le_of_ble_eq_true rfl) (c_isWithin rfl (nI_toInt (by omega)) (nI_toInt (by omega)) ⟨_, rfl, ?_⟩)
        refine Zp.if_eqB k_126_15 (fun c_15 => ?_) (fun c_15 => absurd c_15 (by omega))
        refine Zp.iconst (-1) k_126_29 (by decide) ?_
        refine Zp.iret _ k_126_30 vr_126 rfl ?_
        exact hq I pc (FrC.rf I)
      · obtain ⟨m3, ⟨mp, xp⟩, m4, ms1, ms2, ms3, mk0, mk1, mi0, mi1, mt, mb, mf, mr, mh⟩ := id pm
        refine Zm.go [some (.ref _), some (.int _), some (.int _), some (.int _), some (.int _), none, none, none, none, none, none] vl_226 rfl ?_
        refine Zp.iload_n k_226_0 rfl ?_
        refine Zp.iload_n k_226_1 rfl ?_
        refine Zp.calls2I vs_223 k_226_2 (Nat.le_of_ble_eq_true rfl) (Nat.le_of_ble_eq_true rfl) (c_isSheetM rfl rfl ⟨_, rfl, ?_⟩)
        refine Zp.if_eqB k_226_5 (fun c_5 => ?_) (fun c_5 => absurd c_5 (by omega))
        refine Zp.iconst (-1) k_226_21 (by decide) ?_
        refine Zp.iret _ k_226_22 vr_226 rfl ?_
        first | exact hq I L pm (FrM.rf I) | exact hq I2 L pm2 (fun q hq => s2 q (by omega))
  · refine ⟨.int (-1), A, ho, fun I L Q pc hq => ?_, fun I L Q pm hq => ?_⟩
    · obtain ⟨⟨hp, lp, pp, ep⟩, hk, hi0, hi1, ht, hb, hf, hr, hh⟩ := id pc
      refine Zm.go [some (.ref _), some (.int _), some (.int _), some (.int _), some (.int _), none, none, none, none, none] vl_126 rfl ?_
      refine Zp.iload_n k_126_0 rfl ?_
      refine Zp.iconst (nI 0) k_126_1 (by decide) ?_
      refine Zp.iconst (nI 3) k_126_2 (by decide) ?_
      refine Zp.calls3I vs_129 k_126_3 (Nat.le_of_ble_eq_true rfl) (Nat.le_of_ble_eq_true rfl) (c_isWithin rfl (nI_toInt (by omega)) (nI_toInt (by omega)) ⟨_, rfl, ?_⟩)
      refine Zp.if_eqB k_126_6 (fun c_6 => ?_) (fun c_6 => absurd c_6 (by omega))
      refine Zp.iconst (-1) k_126_29 (by decide) ?_
      refine Zp.iret _ k_126_30 vr_126 rfl ?_
      exact hq I pc (FrC.rf I)
    · obtain ⟨m3, ⟨mp, xp⟩, m4, ms1, ms2, ms3, mk0, mk1, mi0, mi1, mt, mb, mf, mr, mh⟩ := id pm
      refine Zm.go [some (.ref _), some (.int _), some (.int _), some (.int _), some (.int _), none, none, none, none, none, none] vl_226 rfl ?_
      refine Zp.iload_n k_226_0 rfl ?_
      refine Zp.iload_n k_226_1 rfl ?_
      refine Zp.calls2I vs_223 k_226_2 (Nat.le_of_ble_eq_true rfl) (Nat.le_of_ble_eq_true rfl) (c_isSheetM rfl rfl ⟨_, rfl, ?_⟩)
      refine Zp.if_eqB k_226_5 (fun c_5 => ?_) (fun c_5 => absurd c_5 (by omega))
      refine Zp.iconst (-1) k_226_21 (by decide) ?_
      refine Zp.iret _ k_226_22 vr_226 rfl ?_
      first | exact hq I L pm (FrM.rf I) | exact hq I2 L pm2 (fun q hq => s2 q (by omega))
end READ4
