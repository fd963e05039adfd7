/-! SHEETS -/
theorem aH_at (A : zQs) (k : Nat) (s : zSh) : aH (wH A k s) k = s := if_pos rfl
theorem aH_no (A : zQs) (s : zSh) {k j : Nat} (h : ¬ j = k) : aH (wH A k s) j = aH A j := if_neg h
theorem PicC.sheet {A : zQs} {I I' : zI} {k : Nat} {s : zSh} (pc : PicC A I) (hs : Hc I' k s) (e : ∀ q, q ≠ 85 + 2 * k → q ≠ 86 + 2 * k → I' q = I q) (hk : k < 4) : PicC (wH A k s) I' := by
  obtain ⟨h1, h2, h3, h4, h5, h6, h7, h8, h9⟩ := pc
  refine ⟨h1.fr fun q a b => e q (by omega) (by omega), by rw [e 0 (by omega) (by omega)]; exact h2, fun c => (h3 c).fr fun q a b => e q (by omega) (by omega), fun c => (h4 c).fr fun q a b => e q (by omega) (by omega), by rw [e 29 (by omega) (by omega)]; exact h5, by rw [e 30 (by omega) (by omega)]; exact h6, by rw [e 0 (by omega) (by omega)]; exact h7, by rw [e 0 (by omega) (by omega)]; exact h8, fun j hj => ?_⟩
  by_cases c : j = k
  · subst c; rw [aH_at]; exact hs
  · rw [aH_no A s c]
    have := h9 j hj
    unfold Hc at this ⊢
    rw [e (85 + 2 * j) (by omega) (by omega), e (86 + 2 * j) (by omega) (by omega)]
    exact this
theorem PicM.sheet {A : zQs} {I I' : zI} {k : Nat} {s : zSh} (pm : PicM A I) (ho : Ao A) (hs : Hm I' k s) (e : ∀ q, q ≠ 107 → q ≠ 108 → q ≠ 109 → I' q = I q) (e7 : ∀ j, j ≠ k → I' 107 j = I 107 j) (e8 : ∀ j, j ≠ k → I' 108 j = I 108 j) (e9 : ∀ j, j < 40 * k ∨ 40 * k + 40 ≤ j → I' 109 j = I 109 j) : PicM (wH A k s) I' := by
  obtain ⟨m3, ⟨mp, xp⟩, m4, ms1, ms2, ms3, mk0, mk1, mi0, mi1, mt, mb, mf, mr, mh⟩ := pm
  obtain ⟨q0, q1, q2, q3, q4, q5, q6, q7, q8, oh⟩ := ho
  refine ⟨by rw [e 93 (by decide) (by decide) (by decide)]; exact m3, by rw [e 94 (by decide) (by decide) (by decide)]; exact ⟨mp, xp⟩, by rw [e 93 (by decide) (by decide) (by decide)]; exact m4, by rw [e 97 (by decide) (by decide) (by decide)]; exact ms1, by rw [e 98 (by decide) (by decide) (by decide)]; exact ms2, by rw [e 99 (by decide) (by decide) (by decide)]; exact ms3, by rw [e 96 (by decide) (by decide) (by decide)]; exact mk0, by rw [e 96 (by decide) (by decide) (by decide)]; exact mk1, by rw [e 94 (by decide) (by decide) (by decide)]; exact mi0, by rw [e 94 (by decide) (by decide) (by decide)]; exact mi1, by rw [e 93 (by decide) (by decide) (by decide)]; exact mt, by rw [e 104 (by decide) (by decide) (by decide)]; exact mb, by rw [e 93 (by decide) (by decide) (by decide)]; exact mf, by rw [e 93 (by decide) (by decide) (by decide)]; exact mr, fun j hj => ?_⟩
  by_cases c : j = k
  · subst c; rw [aH_at]; exact hs
  · rw [aH_no A s c]
    have h3 := mh j hj
    have o3 := oh j hj
    refine ⟨fun z => (e7 j c).trans (h3.1 z), fun z => ?_⟩
    obtain ⟨z1, z2, z3⟩ := h3.2 z
    exact ⟨(e7 j c).trans z1, (e8 j c).trans z2, fun i hi => (e9 _ (by omega)).trans (z3 i hi)⟩
theorem Ao.sheet {A : zQs} {k : Nat} {s : zSh} (ho : Ao A) (h1 : s.1 ≤ 3) (h2 : s.2.1 ≤ 40) : Ao (wH A k s) := by
  obtain ⟨q0, q1, q2, q3, q4, q5, q6, q7, q8, oh⟩ := ho
  refine ⟨q0, q1, q2, q3, q4, q5, q6, q7, q8, fun j hj => ?_⟩
  by_cases c : j = k
  · subst c; rw [aH_at]; exact ⟨h1, h2⟩
  · rw [aH_no A s c]; exact oh j hj
section SHEETS
variable {G : zG} {A : zQs} {x y z : Int32}
theorem B_sheet (ho : Ao A) : zBoth G 124 224 [.int x, .int y, .int z] A := by
  obtain ⟨⟨so, sz, sst, lo, po, eo⟩, ok0, ok1, oi0, oi1, ot, ob, of_, or_, oh⟩ := id ho
  obtain ⟨o1, o2, o3, o4, o5, o6, o7⟩ := id so
  obtain ⟨p1, p2, p3⟩ := id lo
  obtain ⟨u1, u2⟩ := id po
  obtain ⟨e1, e2⟩ := id eo
  by_cases v : 0 ≤ x.toInt ∧ x.toInt ≤ 3
  · by_cases w : 0 ≤ y.toInt ∧ y.toInt ≤ 2
    · by_cases u : z.toInt ≤ 40
      · by_cases t : z.toInt < 0
        · refine ⟨.int (-14), A, ho, fun I L Q pc hq => ?_, fun I L Q pm hq => ?_⟩
          · obtain ⟨⟨hp, lp, pp, ep⟩, hk, hi0, hi1, ht, hb, hf, hr, hh⟩ := id pc
            refine Zm.go [some (.ref _), some (.int _), some (.int _), some (.int _)] vl_124 rfl ?_
            refine Zp.iload_n k_124_0 rfl ?_
            refine Zp.iconst (nI 0) k_124_1 (by decide) ?_
            refine Zp.iconst (nI 3) k_124_2 (by decide) ?_
            refine Zp.calls3I vs_129 k_124_3 (Nat.le_of_ble_eq_true rfl) (Nat.le_of_ble_eq_true rfl) (c_isWithin rfl (nI_toInt (by omega)) (nI_toInt (by omega)) ⟨_, rfl, ?_⟩)
            refine Zp.if_eqB k_124_6 (fun c_6 => absurd c_6 (by omega)) (fun c_6 => ?_)
            refine Zp.iload_n k_124_9 rfl ?_
            refine Zp.iconst (nI 0) k_124_10 (by decide) ?_
            refine Zp.iconst (nI 2) k_124_11 (by decide) ?_
            refine Zp.calls3I vs_129 k_124_12 (Nat.le_of_ble_eq_true rfl) (Nat.le_of_ble_eq_true rfl) (c_isWithin rfl (nI_toInt (by omega)) (nI_toInt (by omega)) ⟨_, rfl, ?_⟩)
            refine Zp.if_eqB k_124_15 (fun c_15 => absurd c_15 (by omega)) (fun c_15 => ?_)
            refine Zp.iload_n k_124_18 rfl ?_
            refine Zp.bipush (nI 40) k_124_19 (by decide) ?_
            refine Zp.icmp_leZ _ _ k_124_21 rfl (nI_toInt (by omega)) (fun c_21 => ?_) (fun c_21 => absurd c_21 (by omega))
            refine Zp.iload_n k_124_26 rfl ?_
            refine Zp.if_geZ _ k_124_27 rfl (fun c_27 => absurd c_27 (by omega)) (fun c_27 => ?_)
            refine Zp.bipush (-14) k_124_30 (by decide) ?_
            refine Zp.iret _ k_124_32 vr_124 rfl ?_
            exact hq I pc (FrC.rf I)
          · obtain ⟨m3, ⟨mp, xp⟩, m4, ms1, ms2, ms3, mk0, mk1, mi0, mi1, mt, mb, mf, mr, mh⟩ := id pm
            refine Zm.go [some (.ref _), some (.int _), some (.int _), some (.int _), none] vl_224 rfl ?_
            refine Zp.iload_n k_224_0 rfl ?_
            refine Zp.iload_n k_224_1 rfl ?_
            refine Zp.calls2I vs_223 k_224_2 (Nat.le_of_ble_eq_true rfl) (Nat.le_of_ble_eq_true rfl) (c_isSheetM rfl rfl ⟨_, rfl, ?_⟩)
            refine Zp.if_eqB k_224_5 (fun c_5 => absurd c_5 (by omega)) (fun c_5 => ?_)
            refine Zp.iload_n k_224_8 rfl ?_
            refine Zp.bipush (nI 40) k_224_9 (by decide) ?_
            refine Zp.icmp_leZ _ _ k_224_11 rfl (nI_toInt (by omega)) (fun c_11 => ?_) (fun c_11 => absurd c_11 (by omega))
            refine Zp.iload_n k_224_16 rfl ?_
            refine Zp.if_geZ _ k_224_17 rfl (fun c_17 => absurd c_17 (by omega)) (fun c_17 => ?_)
            refine Zp.bipush (-14) k_224_20 (by decide) ?_
            refine Zp.iret _ k_224_22 vr_224 rfl ?_
            first | exact hq I L pm (FrM.rf I) | exact hq I2 L pm2 (fun q hq => s2 q (by omega))
        · obtain ⟨k, hk4, rfl, ek⟩ := zin_nI (n := 4) v.1 (by omega)
          obtain ⟨ln, hl, rfl, el⟩ := zin_nI (n := 3) w.1 (by omega)
          obtain ⟨n, hn, rfl, en⟩ := zin_nI (n := 41) (x := z) (by omega) (by omega)
          rcases (by omega : k = 0 ∨ k = 1 ∨ k = 2 ∨ k = 3) with rfl | rfl | rfl | rfl
          · refine ⟨.int (nI 1), wH A 0 (ln + 1, n, fun _ => nI 0), ho.sheet (by show ln + 1 ≤ 3; omega) (by show n ≤ 40; omega), fun I L Q pc hq => ?_, fun I L Q pm hq => ?_⟩
            · obtain ⟨⟨hp, lp, pp, ep⟩, hk, hi0, hi1, ht, hb, hf, hr, hh⟩ := id pc
              refine Zm.go [some (.ref _), some (.int _), some (.int _), some (.int _)] vl_124 rfl ?_
              refine Zp.iload_n k_124_0 rfl ?_
              refine Zp.iconst (nI 0) k_124_1 (by decide) ?_
              refine Zp.iconst (nI 3) k_124_2 (by decide) ?_
              refine Zp.calls3I vs_129 k_124_3 (Nat.le_of_ble_eq_true rfl) (Nat.le_of_ble_eq_true rfl) (c_isWithin (nI_toInt (by omega)) (nI_toInt (by omega)) (nI_toInt (by omega)) ⟨_, rfl, ?_⟩)
              refine Zp.if_eqB k_124_6 (fun c_6 => absurd c_6 (by omega)) (fun c_6 => ?_)
              refine Zp.iload_n k_124_9 rfl ?_
              refine Zp.iconst (nI 0) k_124_10 (by decide) ?_
              refine Zp.iconst (nI 2) k_124_11 (by decide) ?_
              refine Zp.calls3I vs_129 k_124_12 (Nat.le_of_ble_eq_true rfl) (Nat.le_of_ble_eq_true rfl) (c_isWithin (nI_toInt (by omega)) (nI_toInt (by omega)) (nI_toInt (by omega)) ⟨_, rfl, ?_⟩)
              refine Zp.if_eqB k_124_15 (fun c_15 => absurd c_15 (by omega)) (fun c_15 => ?_)
              refine Zp.iload_n k_124_18 rfl ?_
              refine Zp.bipush (nI 40) k_124_19 (by decide) ?_
              refine Zp.icmp_leN k_124_21 (by omega) (by omega) (fun c_21 => ?_) (fun c_21 => absurd c_21 (by omega))
              refine Zp.iload_n k_124_26 rfl ?_
              refine Zp.if_geN k_124_27 (by omega) ?_
              refine Zp.aload_n k_124_33 rfl ?_
              refine Zp.getR k_124_34 rfl (zlt rfl) m_0 r_0_8 ?_
              refine Zp.iload_n k_124_37 rfl ?_
              refine Zp.aald 0 k_124_38 m_58 (by decide) rfl (by decide) (zlt rfl) r_58_0 ?_
              refine Zp.iload_n k_124_39 rfl ?_
              refine Zp.iload_n k_124_40 rfl ?_
              refine Zp.callv2V v_44 k_124_41 m_85 (Nat.le_of_ble_eq_true rfl) (Nat.le_of_ble_eq_true rfl) (c_renew m_85 r_85_1 m_86 (by omega) (fun I2 g1 g2 g3 g4 => ⟨rfl, ?_⟩))
              refine Zp.iconst (nI 1) k_124_44 (by decide) ?_
              refine Zp.iret _ k_124_45 vr_124 rfl ?_
              exact hq _ (pc.sheet ⟨fun h => absurd h (by show ¬ ln + 1 = 0; omega), fun _ => ⟨g1, g2, g3⟩⟩ (fun q h1 h2 => g4 q h1 h2) (by decide)) (fun q h => g4 q (by omega) (by omega))
            · obtain ⟨m3, ⟨mp, xp⟩, m4, ms1, ms2, ms3, mk0, mk1, mi0, mi1, mt, mb, mf, mr, mh⟩ := id pm
              have loop : ∀ j i (I1 : zI), i + j = 40 → I1 107 0 = nI ln → I1 108 0 = nI n → (∀ q, q < i → I1 109 (40 * 0 + q) = nI 0) → (∀ q, q ≠ 107 → q ≠ 108 → q ≠ 109 → I1 q = I q) → (∀ q, q ≠ 0 → I1 107 q = I 107 q) → (∀ q, q ≠ 0 → I1 108 q = I 108 q) → (∀ q, q < 40 * 0 ∨ 40 * 0 + 40 ≤ q → I1 109 q = I 109 q) → Zp G 224 40 [some (.ref 93), some (.int (nI 0)), some (.int (nI ln)), some (.int (nI n)), some (.int (nI i))] [] I1 L Q := by
                intro j
                induction j with
                | zero =>
                  intro i I1 hi h1 h2 h3 h4 h5 h6 h7
                  have e : i = 40 := by omega
                  subst e
                  refine Zp.iload k_224_40 rfl ?_
                  refine Zp.bipush (nI 40) k_224_42 (by decide) ?_
                  refine Zp.icmp_geN k_224_44 (by omega) (by omega) (fun c_44 => ?_) (fun c_44 => absurd c_44 (by omega))
                  refine Zp.iconst (nI 1) k_224_66 (by decide) ?_
                  refine Zp.iret _ k_224_67 vr_224 rfl ?_
                  exact hq _ _ (pm.sheet ho ⟨fun h => absurd h (by show ¬ ln + 1 = 0; omega), fun _ => ⟨h1, h2, fun q hq => h3 q (by have h9 : q < n := hq; omega)⟩⟩ h4 h5 h6 h7) (fun q h => h4 q (by omega) (by omega) (by omega))
                | succ j ih =>
                  intro i I1 hi h1 h2 h3 h4 h5 h6 h7
                  refine Zp.iload k_224_40 rfl ?_
                  refine Zp.bipush (nI 40) k_224_42 (by decide) ?_
                  refine Zp.icmp_geN k_224_44 (by omega) (by omega) (fun c_44 => absurd c_44 (by omega)) (fun c_44 => ?_)
                  refine Zp.aload_n k_224_47 rfl ?_
                  refine Zp.getR k_224_48 rfl (zlt rfl) m_93 r_93_33 ?_
                  refine Zp.bipush (nI 40) k_224_51 (by decide) ?_
                  refine Zp.iload_n k_224_53 rfl ?_
                  refine Zp.imulN k_224_54 ?_
                  refine Zp.iload k_224_55 rfl ?_
                  refine Zp.iaddN k_224_57 ?_
                  refine Zp.iconst (nI 0) k_224_58 (by decide) ?_
                  refine Zp.iast _ k_224_59 m_109 rfl (by omega) (zlt rfl) ?_
                  refine Zp.iinc (nI (_ + 1)) [some (.ref _), some (.int _), some (.int _), some (.int _), some (.int _)] k_224_60 rfl (nI_1 _) (Nat.lt_of_lt_of_eq (zlt rfl : 4 < 5) vl_224.symm) rfl ?_
                  refine Zp.goto k_224_63 ?_
                  refine ih (i + 1) _ (by omega) ?_ ?_ (fun q hq => ?_) (fun q a0 a1 a2 => by rw [zpu_q _ _ _ a2]; exact h4 q a0 a1 a2) ?_ ?_ (fun q hq => by rw [zpu_k _ _ _ (by omega)]; exact h7 q hq)
                  · rw [zpu_q _ _ _ (by decide)]; exact h1
                  · rw [zpu_q _ _ _ (by decide)]; exact h2
                  · by_cases e : q = i
                    · subst e; rw [zpu_s]
                    · rw [zpu_k _ _ _ (by omega)]; exact h3 q (by omega)
                  · rw [zpu_q _ _ _ (by decide)]; exact h5
                  · rw [zpu_q _ _ _ (by decide)]; exact h6
              
              refine Zm.go [some (.ref _), some (.int _), some (.int _), some (.int _), none] vl_224 rfl ?_
              refine Zp.iload_n k_224_0 rfl ?_
              refine Zp.iload_n k_224_1 rfl ?_
              refine Zp.calls2I vs_223 k_224_2 (Nat.le_of_ble_eq_true rfl) (Nat.le_of_ble_eq_true rfl) (c_isSheetM (nI_toInt (by omega)) (nI_toInt (by omega)) ⟨_, rfl, ?_⟩)
              refine Zp.if_eqB k_224_5 (fun c_5 => absurd c_5 (by omega)) (fun c_5 => ?_)
              refine Zp.iload_n k_224_8 rfl ?_
              refine Zp.bipush (nI 40) k_224_9 (by decide) ?_
              refine Zp.icmp_leN k_224_11 (by omega) (by omega) (fun c_11 => ?_) (fun c_11 => absurd c_11 (by omega))
              refine Zp.iload_n k_224_16 rfl ?_
              refine Zp.if_geN k_224_17 (by omega) ?_
              refine Zp.aload_n k_224_23 rfl ?_
              refine Zp.getR k_224_24 rfl (zlt rfl) m_93 r_93_31 ?_
              refine Zp.iload_n k_224_27 rfl ?_
              refine Zp.iload_n k_224_28 rfl ?_
              refine Zp.iast _ k_224_29 m_107 rfl (by omega) (zlt rfl) ?_
              refine Zp.aload_n k_224_30 rfl ?_
              refine Zp.getR k_224_31 rfl (zlt rfl) m_93 r_93_32 ?_
              refine Zp.iload_n k_224_34 rfl ?_
              refine Zp.iload_n k_224_35 rfl ?_
              refine Zp.iast _ k_224_36 m_108 rfl (by omega) (zlt rfl) ?_
              refine Zp.iconst (nI 0) k_224_37 (by decide) ?_
              refine Zp.istore [some (.ref _), some (.int _), some (.int _), some (.int _), some (.int _)] k_224_38 (Nat.lt_of_lt_of_eq (zlt rfl : 4 < 5) vl_224.symm) rfl ?_
              refine loop 40 0 _ (by omega) ?_ (zpu_s _ _ _ _) (fun q hq => absurd hq (Nat.not_lt_zero q)) (fun q a0 a1 a2 => by rw [zpu_q _ _ _ a1, zpu_q _ _ _ a0]) (fun q hq => ?_) (fun q hq => ?_) (fun q hq => ?_)
              · rw [zpu_q _ _ _ (by decide), zpu_s]
              · rw [zpu_q _ _ _ (by decide), zpu_k _ _ _ hq]
              · rw [zpu_k _ _ _ hq, zpu_q _ _ _ (by decide)]
              · rw [zpu_q _ _ _ (by decide), zpu_q _ _ _ (by decide)]
          · refine ⟨.int (nI 1), wH A 1 (ln + 1, n, fun _ => nI 0), ho.sheet (by show ln + 1 ≤ 3; omega) (by show n ≤ 40; omega), fun I L Q pc hq => ?_, fun I L Q pm hq => ?_⟩
            · obtain ⟨⟨hp, lp, pp, ep⟩, hk, hi0, hi1, ht, hb, hf, hr, hh⟩ := id pc
              refine Zm.go [some (.ref _), some (.int _), some (.int _), some (.int _)] vl_124 rfl ?_
              refine Zp.iload_n k_124_0 rfl ?_
              refine Zp.iconst (nI 0) k_124_1 (by decide) ?_
              refine Zp.iconst (nI 3) k_124_2 (by decide) ?_
              refine Zp.calls3I vs_129 k_124_3 (Nat.le_of_ble_eq_true rfl) (Nat.le_of_ble_eq_true rfl) (c_isWithin (nI_toInt (by omega)) (nI_toInt (by omega)) (nI_toInt (by omega)) ⟨_, rfl, ?_⟩)
              refine Zp.if_eqB k_124_6 (fun c_6 => absurd c_6 (by omega)) (fun c_6 => ?_)
              refine Zp.iload_n k_124_9 rfl ?_
              refine Zp.iconst (nI 0) k_124_10 (by decide) ?_
              refine Zp.iconst (nI 2) k_124_11 (by decide) ?_
              refine Zp.calls3I vs_129 k_124_12 (Nat.le_of_ble_eq_true rfl) (Nat.le_of_ble_eq_true rfl) (c_isWithin (nI_toInt (by omega)) (nI_toInt (by omega)) (nI_toInt (by omega)) ⟨_, rfl, ?_⟩)
              refine Zp.if_eqB k_124_15 (fun c_15 => absurd c_15 (by omega)) (fun c_15 => ?_)
              refine Zp.iload_n k_124_18 rfl ?_
              refine Zp.bipush (nI 40) k_124_19 (by decide) ?_
              refine Zp.icmp_leN k_124_21 (by omega) (by omega) (fun c_21 => ?_) (fun c_21 => absurd c_21 (by omega))
              refine Zp.iload_n k_124_26 rfl ?_
              refine Zp.if_geN k_124_27 (by omega) ?_
              refine Zp.aload_n k_124_33 rfl ?_
              refine Zp.getR k_124_34 rfl (zlt rfl) m_0 r_0_8 ?_
              refine Zp.iload_n k_124_37 rfl ?_
              refine Zp.aald 1 k_124_38 m_58 (by decide) rfl (by decide) (zlt rfl) r_58_1 ?_
              refine Zp.iload_n k_124_39 rfl ?_
              refine Zp.iload_n k_124_40 rfl ?_
              refine Zp.callv2V v_44 k_124_41 m_87 (Nat.le_of_ble_eq_true rfl) (Nat.le_of_ble_eq_true rfl) (c_renew m_87 r_87_1 m_88 (by omega) (fun I2 g1 g2 g3 g4 => ⟨rfl, ?_⟩))
              refine Zp.iconst (nI 1) k_124_44 (by decide) ?_
              refine Zp.iret _ k_124_45 vr_124 rfl ?_
              exact hq _ (pc.sheet ⟨fun h => absurd h (by show ¬ ln + 1 = 0; omega), fun _ => ⟨g1, g2, g3⟩⟩ (fun q h1 h2 => g4 q h1 h2) (by decide)) (fun q h => g4 q (by omega) (by omega))
            · obtain ⟨m3, ⟨mp, xp⟩, m4, ms1, ms2, ms3, mk0, mk1, mi0, mi1, mt, mb, mf, mr, mh⟩ := id pm
              have loop : ∀ j i (I1 : zI), i + j = 40 → I1 107 1 = nI ln → I1 108 1 = nI n → (∀ q, q < i → I1 109 (40 * 1 + q) = nI 0) → (∀ q, q ≠ 107 → q ≠ 108 → q ≠ 109 → I1 q = I q) → (∀ q, q ≠ 1 → I1 107 q = I 107 q) → (∀ q, q ≠ 1 → I1 108 q = I 108 q) → (∀ q, q < 40 * 1 ∨ 40 * 1 + 40 ≤ q → I1 109 q = I 109 q) → Zp G 224 40 [some (.ref 93), some (.int (nI 1)), some (.int (nI ln)), some (.int (nI n)), some (.int (nI i))] [] I1 L Q := by
                intro j
                induction j with
                | zero =>
                  intro i I1 hi h1 h2 h3 h4 h5 h6 h7
                  have e : i = 40 := by omega
                  subst e
                  refine Zp.iload k_224_40 rfl ?_
                  refine Zp.bipush (nI 40) k_224_42 (by decide) ?_
                  refine Zp.icmp_geN k_224_44 (by omega) (by omega) (fun c_44 => ?_) (fun c_44 => absurd c_44 (by omega))
                  refine Zp.iconst (nI 1) k_224_66 (by decide) ?_
                  refine Zp.iret _ k_224_67 vr_224 rfl ?_
                  exact hq _ _ (pm.sheet ho ⟨fun h => absurd h (by show ¬ ln + 1 = 0; omega), fun _ => ⟨h1, h2, fun q hq => h3 q (by have h9 : q < n := hq; omega)⟩⟩ h4 h5 h6 h7) (fun q h => h4 q (by omega) (by omega) (by omega))
                | succ j ih =>
                  intro i I1 hi h1 h2 h3 h4 h5 h6 h7
                  refine Zp.iload k_224_40 rfl ?_
                  refine Zp.bipush (nI 40) k_224_42 (by decide) ?_
                  refine Zp.icmp_geN k_224_44 (by omega) (by omega) (fun c_44 => absurd c_44 (by omega)) (fun c_44 => ?_)
                  refine Zp.aload_n k_224_47 rfl ?_
                  refine Zp.getR k_224_48 rfl (zlt rfl) m_93 r_93_33 ?_
                  refine Zp.bipush (nI 40) k_224_51 (by decide) ?_
                  refine Zp.iload_n k_224_53 rfl ?_
                  refine Zp.imulN k_224_54 ?_
                  refine Zp.iload k_224_55 rfl ?_
                  refine Zp.iaddN k_224_57 ?_
                  refine Zp.iconst (nI 0) k_224_58 (by decide) ?_
                  refine Zp.iast _ k_224_59 m_109 rfl (by omega) (zlt rfl) ?_
                  refine Zp.iinc (nI (_ + 1)) [some (.ref _), some (.int _), some (.int _), some (.int _), some (.int _)] k_224_60 rfl (nI_1 _) (Nat.lt_of_lt_of_eq (zlt rfl : 4 < 5) vl_224.symm) rfl ?_
                  refine Zp.goto k_224_63 ?_
                  refine ih (i + 1) _ (by omega) ?_ ?_ (fun q hq => ?_) (fun q a0 a1 a2 => by rw [zpu_q _ _ _ a2]; exact h4 q a0 a1 a2) ?_ ?_ (fun q hq => by rw [zpu_k _ _ _ (by omega)]; exact h7 q hq)
                  · rw [zpu_q _ _ _ (by decide)]; exact h1
                  · rw [zpu_q _ _ _ (by decide)]; exact h2
                  · by_cases e : q = i
                    · subst e; rw [zpu_s]
                    · rw [zpu_k _ _ _ (by omega)]; exact h3 q (by omega)
                  · rw [zpu_q _ _ _ (by decide)]; exact h5
                  · rw [zpu_q _ _ _ (by decide)]; exact h6
              
              refine Zm.go [some (.ref _), some (.int _), some (.int _), some (.int _), none] vl_224 rfl ?_
              refine Zp.iload_n k_224_0 rfl ?_
              refine Zp.iload_n k_224_1 rfl ?_
              refine Zp.calls2I vs_223 k_224_2 (Nat.le_of_ble_eq_true rfl) (Nat.le_of_ble_eq_true rfl) (c_isSheetM (nI_toInt (by omega)) (nI_toInt (by omega)) ⟨_, rfl, ?_⟩)
              refine Zp.if_eqB k_224_5 (fun c_5 => absurd c_5 (by omega)) (fun c_5 => ?_)
              refine Zp.iload_n k_224_8 rfl ?_
              refine Zp.bipush (nI 40) k_224_9 (by decide) ?_
              refine Zp.icmp_leN k_224_11 (by omega) (by omega) (fun c_11 => ?_) (fun c_11 => absurd c_11 (by omega))
              refine Zp.iload_n k_224_16 rfl ?_
              refine Zp.if_geN k_224_17 (by omega) ?_
              refine Zp.aload_n k_224_23 rfl ?_
              refine Zp.getR k_224_24 rfl (zlt rfl) m_93 r_93_31 ?_
              refine Zp.iload_n k_224_27 rfl ?_
              refine Zp.iload_n k_224_28 rfl ?_
              refine Zp.iast _ k_224_29 m_107 rfl (by omega) (zlt rfl) ?_
              refine Zp.aload_n k_224_30 rfl ?_
              refine Zp.getR k_224_31 rfl (zlt rfl) m_93 r_93_32 ?_
              refine Zp.iload_n k_224_34 rfl ?_
              refine Zp.iload_n k_224_35 rfl ?_
              refine Zp.iast _ k_224_36 m_108 rfl (by omega) (zlt rfl) ?_
              refine Zp.iconst (nI 0) k_224_37 (by decide) ?_
              refine Zp.istore [some (.ref _), some (.int _), some (.int _), some (.int _), some (.int _)] k_224_38 (Nat.lt_of_lt_of_eq (zlt rfl : 4 < 5) vl_224.symm) rfl ?_
              refine loop 40 0 _ (by omega) ?_ (zpu_s _ _ _ _) (fun q hq => absurd hq (Nat.not_lt_zero q)) (fun q a0 a1 a2 => by rw [zpu_q _ _ _ a1, zpu_q _ _ _ a0]) (fun q hq => ?_) (fun q hq => ?_) (fun q hq => ?_)
              · rw [zpu_q _ _ _ (by decide), zpu_s]
              · rw [zpu_q _ _ _ (by decide), zpu_k _ _ _ hq]
              · rw [zpu_k _ _ _ hq, zpu_q _ _ _ (by decide)]
              · rw [zpu_q _ _ _ (by decide), zpu_q _ _ _ (by decide)]
          · refine ⟨.int (nI 1), wH A 2 (ln + 1, n, fun _ => nI 0), ho.sheet (by show ln + 1 ≤ 3; omega) (by show n ≤ 40; omega), fun I L Q pc hq => ?_, fun I L Q pm hq => ?_⟩
            · obtain ⟨⟨hp, lp, pp, ep⟩, hk, hi0, hi1, ht, hb, hf, hr, hh⟩ := id pc
              refine Zm.go [some (.ref _), some (.int _), some (.int _), some (.int _)] vl_124 rfl ?_
              refine Zp.iload_n k_124_0 rfl ?_
              refine Zp.iconst (nI 0) k_124_1 (by decide) ?_
              refine Zp.iconst (nI 3) k_124_2 (by decide) ?_
              refine Zp.calls3I vs_129 k_124_3 (Nat.le_of_ble_eq_true rfl) (Nat.le_of_ble_eq_true rfl) (c_isWithin (nI_toInt (by omega)) (nI_toInt (by omega)) (nI_toInt (by omega)) ⟨_, rfl, ?_⟩)
              refine Zp.if_eqB k_124_6 (fun c_6 => absurd c_6 (by omega)) (fun c_6 => ?_)
              refine Zp.iload_n k_124_9 rfl ?_
              refine Zp.iconst (nI 0) k_124_10 (by decide) ?_
              refine Zp.iconst (nI 2) k_124_11 (by decide) ?_
              refine Zp.calls3I vs_129 k_124_12 (Nat.le_of_ble_eq_true rfl) (Nat.le_of_ble_eq_true rfl) (c_isWithin (nI_toInt (by omega)) (nI_toInt (by omega)) (nI_toInt (by omega)) ⟨_, rfl, ?_⟩)
              refine Zp.if_eqB k_124_15 (fun c_15 => absurd c_15 (by omega)) (fun c_15 => ?_)
              refine Zp.iload_n k_124_18 rfl ?_
              refine Zp.bipush (nI 40) k_124_19 (by decide) ?_
              refine Zp.icmp_leN k_124_21 (by omega) (by omega) (fun c_21 => ?_) (fun c_21 => absurd c_21 (by omega))
              refine Zp.iload_n k_124_26 rfl ?_
              refine Zp.if_geN k_124_27 (by omega) ?_
              refine Zp.aload_n k_124_33 rfl ?_
              refine Zp.getR k_124_34 rfl (zlt rfl) m_0 r_0_8 ?_
              refine Zp.iload_n k_124_37 rfl ?_
              refine Zp.aald 2 k_124_38 m_58 (by decide) rfl (by decide) (zlt rfl) r_58_2 ?_
              refine Zp.iload_n k_124_39 rfl ?_
              refine Zp.iload_n k_124_40 rfl ?_
              refine Zp.callv2V v_44 k_124_41 m_89 (Nat.le_of_ble_eq_true rfl) (Nat.le_of_ble_eq_true rfl) (c_renew m_89 r_89_1 m_90 (by omega) (fun I2 g1 g2 g3 g4 => ⟨rfl, ?_⟩))
              refine Zp.iconst (nI 1) k_124_44 (by decide) ?_
              refine Zp.iret _ k_124_45 vr_124 rfl ?_
              exact hq _ (pc.sheet ⟨fun h => absurd h (by show ¬ ln + 1 = 0; omega), fun _ => ⟨g1, g2, g3⟩⟩ (fun q h1 h2 => g4 q h1 h2) (by decide)) (fun q h => g4 q (by omega) (by omega))
            · obtain ⟨m3, ⟨mp, xp⟩, m4, ms1, ms2, ms3, mk0, mk1, mi0, mi1, mt, mb, mf, mr, mh⟩ := id pm
              have loop : ∀ j i (I1 : zI), i + j = 40 → I1 107 2 = nI ln → I1 108 2 = nI n → (∀ q, q < i → I1 109 (40 * 2 + q) = nI 0) → (∀ q, q ≠ 107 → q ≠ 108 → q ≠ 109 → I1 q = I q) → (∀ q, q ≠ 2 → I1 107 q = I 107 q) → (∀ q, q ≠ 2 → I1 108 q = I 108 q) → (∀ q, q < 40 * 2 ∨ 40 * 2 + 40 ≤ q → I1 109 q = I 109 q) → Zp G 224 40 [some (.ref 93), some (.int (nI 2)), some (.int (nI ln)), some (.int (nI n)), some (.int (nI i))] [] I1 L Q := by
                intro j
                induction j with
                | zero =>
                  intro i I1 hi h1 h2 h3 h4 h5 h6 h7
                  have e : i = 40 := by omega
                  subst e
                  refine Zp.iload k_224_40 rfl ?_
                  refine Zp.bipush (nI 40) k_224_42 (by decide) ?_
                  refine Zp.icmp_geN k_224_44 (by omega) (by omega) (fun c_44 => ?_) (fun c_44 => absurd c_44 (by omega))
                  refine Zp.iconst (nI 1) k_224_66 (by decide) ?_
                  refine Zp.iret _ k_224_67 vr_224 rfl ?_
                  exact hq _ _ (pm.sheet ho ⟨fun h => absurd h (by show ¬ ln + 1 = 0; omega), fun _ => ⟨h1, h2, fun q hq => h3 q (by have h9 : q < n := hq; omega)⟩⟩ h4 h5 h6 h7) (fun q h => h4 q (by omega) (by omega) (by omega))
                | succ j ih =>
                  intro i I1 hi h1 h2 h3 h4 h5 h6 h7
                  refine Zp.iload k_224_40 rfl ?_
                  refine Zp.bipush (nI 40) k_224_42 (by decide) ?_
                  refine Zp.icmp_geN k_224_44 (by omega) (by omega) (fun c_44 => absurd c_44 (by omega)) (fun c_44 => ?_)
                  refine Zp.aload_n k_224_47 rfl ?_
                  refine Zp.getR k_224_48 rfl (zlt rfl) m_93 r_93_33 ?_
                  refine Zp.bipush (nI 40) k_224_51 (by decide) ?_
                  refine Zp.iload_n k_224_53 rfl ?_
                  refine Zp.imulN k_224_54 ?_
                  refine Zp.iload k_224_55 rfl ?_
                  refine Zp.iaddN k_224_57 ?_
                  refine Zp.iconst (nI 0) k_224_58 (by decide) ?_
                  refine Zp.iast _ k_224_59 m_109 rfl (by omega) (zlt rfl) ?_
                  refine Zp.iinc (nI (_ + 1)) [some (.ref _), some (.int _), some (.int _), some (.int _), some (.int _)] k_224_60 rfl (nI_1 _) (Nat.lt_of_lt_of_eq (zlt rfl : 4 < 5) vl_224.symm) rfl ?_
                  refine Zp.goto k_224_63 ?_
                  refine ih (i + 1) _ (by omega) ?_ ?_ (fun q hq => ?_) (fun q a0 a1 a2 => by rw [zpu_q _ _ _ a2]; exact h4 q a0 a1 a2) ?_ ?_ (fun q hq => by rw [zpu_k _ _ _ (by omega)]; exact h7 q hq)
                  · rw [zpu_q _ _ _ (by decide)]; exact h1
                  · rw [zpu_q _ _ _ (by decide)]; exact h2
                  · by_cases e : q = i
                    · subst e; rw [zpu_s]
                    · rw [zpu_k _ _ _ (by omega)]; exact h3 q (by omega)
                  · rw [zpu_q _ _ _ (by decide)]; exact h5
                  · rw [zpu_q _ _ _ (by decide)]; exact h6
              
              refine Zm.go [some (.ref _), some (.int _), some (.int _), some (.int _), none] vl_224 rfl ?_
              refine Zp.iload_n k_224_0 rfl ?_
              refine Zp.iload_n k_224_1 rfl ?_
              refine Zp.calls2I vs_223 k_224_2 (Nat.le_of_ble_eq_true rfl) (Nat.le_of_ble_eq_true rfl) (c_isSheetM (nI_toInt (by omega)) (nI_toInt (by omega)) ⟨_, rfl, ?_⟩)
              refine Zp.if_eqB k_224_5 (fun c_5 => absurd c_5 (by omega)) (fun c_5 => ?_)
              refine Zp.iload_n k_224_8 rfl ?_
              refine Zp.bipush (nI 40) k_224_9 (by decide) ?_
              refine Zp.icmp_leN k_224_11 (by omega) (by omega) (fun c_11 => ?_) (fun c_11 => absurd c_11 (by omega))
              refine Zp.iload_n k_224_16 rfl ?_
              refine Zp.if_geN k_224_17 (by omega) ?_
              refine Zp.aload_n k_224_23 rfl ?_
              refine Zp.getR k_224_24 rfl (zlt rfl) m_93 r_93_31 ?_
              refine Zp.iload_n k_224_27 rfl ?_
              refine Zp.iload_n k_224_28 rfl ?_
              refine Zp.iast _ k_224_29 m_107 rfl (by omega) (zlt rfl) ?_
              refine Zp.aload_n k_224_30 rfl ?_
              refine Zp.getR k_224_31 rfl (zlt rfl) m_93 r_93_32 ?_
              refine Zp.iload_n k_224_34 rfl ?_
              refine Zp.iload_n k_224_35 rfl ?_
              refine Zp.iast _ k_224_36 m_108 rfl (by omega) (zlt rfl) ?_
              refine Zp.iconst (nI 0) k_224_37 (by decide) ?_
              refine Zp.istore [some (.ref _), some (.int _), some (.int _), some (.int _), some (.int _)] k_224_38 (Nat.lt_of_lt_of_eq (zlt rfl : 4 < 5) vl_224.symm) rfl ?_
              refine loop 40 0 _ (by omega) ?_ (zpu_s _ _ _ _) (fun q hq => absurd hq (Nat.not_lt_zero q)) (fun q a0 a1 a2 => by rw [zpu_q _ _ _ a1, zpu_q _ _ _ a0]) (fun q hq => ?_) (fun q hq => ?_) (fun q hq => ?_)
              · rw [zpu_q _ _ _ (by decide), zpu_s]
              · rw [zpu_q _ _ _ (by decide), zpu_k _ _ _ hq]
              · rw [zpu_k _ _ _ hq, zpu_q _ _ _ (by decide)]
              · rw [zpu_q _ _ _ (by decide), zpu_q _ _ _ (by decide)]
          · refine ⟨.int (nI 1), wH A 3 (ln + 1, n, fun _ => nI 0), ho.sheet (by show ln + 1 ≤ 3; omega) (by show n ≤ 40; omega), fun I L Q pc hq => ?_, fun I L Q pm hq => ?_⟩
            · obtain ⟨⟨hp, lp, pp, ep⟩, hk, hi0, hi1, ht, hb, hf, hr, hh⟩ := id pc
              refine Zm.go [some (.ref _), some (.int _), some (.int _), some (.int _)] vl_124 rfl ?_
              refine Zp.iload_n k_124_0 rfl ?_
              refine Zp.iconst (nI 0) k_124_1 (by decide) ?_
              refine Zp.iconst (nI 3) k_124_2 (by decide) ?_
              refine Zp.calls3I vs_129 k_124_3 (Nat.le_of_ble_eq_true rfl) (Nat.le_of_ble_eq_true rfl) (c_isWithin (nI_toInt (by omega)) (nI_toInt (by omega)) (nI_toInt (by omega)) ⟨_, rfl, ?_⟩)
              refine Zp.if_eqB k_124_6 (fun c_6 => absurd c_6 (by omega)) (fun c_6 => ?_)
              refine Zp.iload_n k_124_9 rfl ?_
              refine Zp.iconst (nI 0) k_124_10 (by decide) ?_
              refine Zp.iconst (nI 2) k_124_11 (by decide) ?_
              refine Zp.calls3I vs_129 k_124_12 (Nat.le_of_ble_eq_true rfl) (Nat.le_of_ble_eq_true rfl) (c_isWithin (nI_toInt (by omega)) (nI_toInt (by omega)) (nI_toInt (by omega)) ⟨_, rfl, ?_⟩)
              refine Zp.if_eqB k_124_15 (fun c_15 => absurd c_15 (by omega)) (fun c_15 => ?_)
              refine Zp.iload_n k_124_18 rfl ?_
              refine Zp.bipush (nI 40) k_124_19 (by decide) ?_
              refine Zp.icmp_leN k_124_21 (by omega) (by omega) (fun c_21 => ?_) (fun c_21 => absurd c_21 (by omega))
              refine Zp.iload_n k_124_26 rfl ?_
              refine Zp.if_geN k_124_27 (by omega) ?_
              refine Zp.aload_n k_124_33 rfl ?_
              refine Zp.getR k_124_34 rfl (zlt rfl) m_0 r_0_8 ?_
              refine Zp.iload_n k_124_37 rfl ?_
              refine Zp.aald 3 k_124_38 m_58 (by decide) rfl (by decide) (zlt rfl) r_58_3 ?_
              refine Zp.iload_n k_124_39 rfl ?_
              refine Zp.iload_n k_124_40 rfl ?_
              refine Zp.callv2V v_44 k_124_41 m_91 (Nat.le_of_ble_eq_true rfl) (Nat.le_of_ble_eq_true rfl) (c_renew m_91 r_91_1 m_92 (by omega) (fun I2 g1 g2 g3 g4 => ⟨rfl, ?_⟩))
              refine Zp.iconst (nI 1) k_124_44 (by decide) ?_
              refine Zp.iret _ k_124_45 vr_124 rfl ?_
              exact hq _ (pc.sheet ⟨fun h => absurd h (by show ¬ ln + 1 = 0; omega), fun _ => ⟨g1, g2, g3⟩⟩ (fun q h1 h2 => g4 q h1 h2) (by decide)) (fun q h => g4 q (by omega) (by omega))
            · obtain ⟨m3, ⟨mp, xp⟩, m4, ms1, ms2, ms3, mk0, mk1, mi0, mi1, mt, mb, mf, mr, mh⟩ := id pm
              have loop : ∀ j i (I1 : zI), i + j = 40 → I1 107 3 = nI ln → I1 108 3 = nI n → (∀ q, q < i → I1 109 (40 * 3 + q) = nI 0) → (∀ q, q ≠ 107 → q ≠ 108 → q ≠ 109 → I1 q = I q) → (∀ q, q ≠ 3 → I1 107 q = I 107 q) → (∀ q, q ≠ 3 → I1 108 q = I 108 q) → (∀ q, q < 40 * 3 ∨ 40 * 3 + 40 ≤ q → I1 109 q = I 109 q) → Zp G 224 40 [some (.ref 93), some (.int (nI 3)), some (.int (nI ln)), some (.int (nI n)), some (.int (nI i))] [] I1 L Q := by
                intro j
                induction j with
                | zero =>
                  intro i I1 hi h1 h2 h3 h4 h5 h6 h7
                  have e : i = 40 := by omega
                  subst e
                  refine Zp.iload k_224_40 rfl ?_
                  refine Zp.bipush (nI 40) k_224_42 (by decide) ?_
                  refine Zp.icmp_geN k_224_44 (by omega) (by omega) (fun c_44 => ?_) (fun c_44 => absurd c_44 (by omega))
                  refine Zp.iconst (nI 1) k_224_66 (by decide) ?_
                  refine Zp.iret _ k_224_67 vr_224 rfl ?_
                  exact hq _ _ (pm.sheet ho ⟨fun h => absurd h (by show ¬ ln + 1 = 0; omega), fun _ => ⟨h1, h2, fun q hq => h3 q (by have h9 : q < n := hq; omega)⟩⟩ h4 h5 h6 h7) (fun q h => h4 q (by omega) (by omega) (by omega))
                | succ j ih =>
                  intro i I1 hi h1 h2 h3 h4 h5 h6 h7
                  refine Zp.iload k_224_40 rfl ?_
                  refine Zp.bipush (nI 40) k_224_42 (by decide) ?_
                  refine Zp.icmp_geN k_224_44 (by omega) (by omega) (fun c_44 => absurd c_44 (by omega)) (fun c_44 => ?_)
                  refine Zp.aload_n k_224_47 rfl ?_
                  refine Zp.getR k_224_48 rfl (zlt rfl) m_93 r_93_33 ?_
                  refine Zp.bipush (nI 40) k_224_51 (by decide) ?_
                  refine Zp.iload_n k_224_53 rfl ?_
                  refine Zp.imulN k_224_54 ?_
                  refine Zp.iload k_224_55 rfl ?_
                  refine Zp.iaddN k_224_57 ?_
                  refine Zp.iconst (nI 0) k_224_58 (by decide) ?_
                  refine Zp.iast _ k_224_59 m_109 rfl (by omega) (zlt rfl) ?_
                  refine Zp.iinc (nI (_ + 1)) [some (.ref _), some (.int _), some (.int _), some (.int _), some (.int _)] k_224_60 rfl (nI_1 _) (Nat.lt_of_lt_of_eq (zlt rfl : 4 < 5) vl_224.symm) rfl ?_
                  refine Zp.goto k_224_63 ?_
                  refine ih (i + 1) _ (by omega) ?_ ?_ (fun q hq => ?_) (fun q a0 a1 a2 => by rw [zpu_q _ _ _ a2]; exact h4 q a0 a1 a2) ?_ ?_ (fun q hq => by rw [zpu_k _ _ _ (by omega)]; exact h7 q hq)
                  · rw [zpu_q _ _ _ (by decide)]; exact h1
                  · rw [zpu_q _ _ _ (by decide)]; exact h2
                  · by_cases e : q = i
                    · subst e; rw [zpu_s]
                    · rw [zpu_k _ _ _ (by omega)]; exact h3 q (by omega)
                  · rw [zpu_q _ _ _ (by decide)]; exact h5
                  · rw [zpu_q _ _ _ (by decide)]; exact h6
              
              refine Zm.go [some (.ref _), some (.int _), some (.int _), some (.int _), none] vl_224 rfl ?_
              refine Zp.iload_n k_224_0 rfl ?_
              refine Zp.iload_n k_224_1 rfl ?_
              refine Zp.calls2I vs_223 k_224_2 (Nat.le_of_ble_eq_true rfl) (Nat.le_of_ble_eq_true rfl) (c_isSheetM (nI_toInt (by omega)) (nI_toInt (by omega)) ⟨_, rfl, ?_⟩)
              refine Zp.if_eqB k_224_5 (fun c_5 => absurd c_5 (by omega)) (fun c_5 => ?_)
              refine Zp.iload_n k_224_8 rfl ?_
              refine Zp.bipush (nI 40) k_224_9 (by decide) ?_
              refine Zp.icmp_leN k_224_11 (by omega) (by omega) (fun c_11 => ?_) (fun c_11 => absurd c_11 (by omega))
              refine Zp.iload_n k_224_16 rfl ?_
              refine Zp.if_geN k_224_17 (by omega) ?_
              refine Zp.aload_n k_224_23 rfl ?_
              refine Zp.getR k_224_24 rfl (zlt rfl) m_93 r_93_31 ?_
              refine Zp.iload_n k_224_27 rfl ?_
              refine Zp.iload_n k_224_28 rfl ?_
              refine Zp.iast _ k_224_29 m_107 rfl (by omega) (zlt rfl) ?_
              refine Zp.aload_n k_224_30 rfl ?_
              refine Zp.getR k_224_31 rfl (zlt rfl) m_93 r_93_32 ?_
              refine Zp.iload_n k_224_34 rfl ?_
              refine Zp.iload_n k_224_35 rfl ?_
              refine Zp.iast _ k_224_36 m_108 rfl (by omega) (zlt rfl) ?_
              refine Zp.iconst (nI 0) k_224_37 (by decide) ?_
              refine Zp.istore [some (.ref _), some (.int _), some (.int _), some (.int _), some (.int _)] k_224_38 (Nat.lt_of_lt_of_eq (zlt rfl : 4 < 5) vl_224.symm) rfl ?_
              refine loop 40 0 _ (by omega) ?_ (zpu_s _ _ _ _) (fun q hq => absurd hq (Nat.not_lt_zero q)) (fun q a0 a1 a2 => by rw [zpu_q _ _ _ a1, zpu_q _ _ _ a0]) (fun q hq => ?_) (fun q hq => ?_) (fun q hq => ?_)
              · rw [zpu_q _ _ _ (by decide), zpu_s]
              · rw [zpu_q _ _ _ (by decide), zpu_k _ _ _ hq]
              · rw [zpu_k _ _ _ hq, zpu_q _ _ _ (by decide)]
              · rw [zpu_q _ _ _ (by decide), zpu_q _ _ _ (by decide)]
      · refine ⟨.int (-1), A, ho, fun I L Q pc hq => ?_, fun I L Q pm hq => ?_⟩
        · obtain ⟨⟨hp, lp, pp, ep⟩, hk, hi0, hi1, ht, hb, hf, hr, hh⟩ := id pc
          refine Zm.go [some (.ref _), some (.int _), some (.int _), some (.int _)] vl_124 rfl ?_
          refine Zp.iload_n k_124_0 rfl ?_
          refine Zp.iconst (nI 0) k_124_1 (by decide) ?_
          refine Zp.iconst (nI 3) k_124_2 (by decide) ?_
          refine Zp.calls3I vs_129 k_124_3 (Nat.le_of_ble_eq_true rfl) (Nat.le_of_ble_eq_true rfl) (c_isWithin rfl (nI_toInt (by omega)) (nI_toInt (by omega)) ⟨_, rfl, ?_⟩)
          refine Zp.if_eqB k_124_6 (fun c_6 => absurd c_6 (by omega)) (fun c_6 => ?_)
          refine Zp.iload_n k_124_9 rfl ?_
          refine Zp.iconst (nI 0) k_124_10 (by decide) ?_
          refine Zp.iconst (nI 2) k_124_11 (by decide) ?_
          refine Zp.calls3I vs_129 k_124_12 (Nat.le_of_ble_eq_true rfl) (Nat.le_of_ble_eq_true rfl) (c_isWithin rfl (nI_toInt (by omega)) (nI_toInt (by omega)) ⟨_, rfl, ?_⟩)
          refine Zp.if_eqB k_124_15 (fun c_15 => absurd c_15 (by omega)) (fun c_15 => ?_)
          refine Zp.iload_n k_124_18 rfl ?_
          refine Zp.bipush (nI 40) k_124_19 (by decide) ?_
          refine Zp.icmp_leZ _ _ k_124_21 rfl (nI_toInt (by omega)) (fun c_21 => absurd c_21 (by omega)) (fun c_21 => ?_)
          refine Zp.iconst (-1) k_124_24 (by decide) ?_
          refine Zp.iret _ k_124_25 vr_124 rfl ?_
          exact hq I pc (FrC.rf I)
        · obtain ⟨m3, ⟨mp, xp⟩, m4, ms1, ms2, ms3, mk0, mk1, mi0, mi1, mt, mb, mf, mr, mh⟩ := id pm
          refine Zm.go [some (.ref _), some (.int _), some (.int _), some (.int _), none] vl_224 rfl ?_
          refine Zp.iload_n k_224_0 rfl ?_
          refine Zp.iload_n k_224_1 rfl ?_
          refine Zp.calls2I vs_223 k_224_2 (Nat.le_of_ble_eq_true rfl) (Nat.le_of_ble_eq_true rfl) (c_isSheetM rfl rfl ⟨_, rfl, ?_⟩)
          refine Zp.if_eqB k_224_5 (fun c_5 => absurd c_5 (by omega)) (fun c_5 => ?_)
          refine Zp.iload_n k_224_8 rfl ?_
          refine Zp.bipush (nI 40) k_224_9 (by decide) ?_
          refine Zp.icmp_leZ _ _ k_224_11 rfl (nI_toInt (by omega)) (fun c_11 => absurd c_11 (by omega)) (fun c_11 => ?_)
          refine Zp.iconst (-1) k_224_14 (by decide) ?_
          refine Zp.iret _ k_224_15 vr_224 rfl ?_
          first | exact hq I L pm (FrM.rf I) | exact hq I2 L pm2 (fun q hq => s2 q (by omega))
    · refine ⟨.int (-1), A, ho, fun I L Q pc hq => ?_, fun I L Q pm hq => ?_⟩
      · obtain ⟨⟨hp, lp, pp, ep⟩, hk, hi0, hi1, ht, hb, hf, hr, hh⟩ := id pc
        refine Zm.go [some (.ref _), some (.int _), some (.int _), some (.int _)] vl_124 rfl ?_
        refine Zp.iload_n k_124_0 rfl ?_
        refine Zp.iconst (nI 0) k_124_1 (by decide) ?_
        refine Zp.iconst (nI 3) k_124_2 (by decide) ?_
        refine Zp.calls3I vs_129 k_124_3 (Nat.le_of_ble_eq_true rfl) (Nat.le_of_ble_eq_true rfl) (c_isWithin rfl (nI_toInt (by omega)) (nI_toInt (by omega)) ⟨_, rfl, ?_⟩)
        refine Zp.if_eqB k_124_6 (fun c_6 => absurd c_6 (by omega)) (fun c_6 => ?_)
        refine Zp.iload_n k_124_9 rfl ?_
        refine Zp.iconst (nI 0) k_124_10 (by decide) ?_
        refine Zp.iconst (nI 2) k_124_11 (by decide) ?_
        refine Zp.calls3I vs_129 k_124_12 (Nat.le_of_ble_eq_true rfl) (Nat.le_of_ble_eq_true rfl) (c_isWithin rfl (nI_toInt (by omega)) (nI_toInt (by omega)) ⟨_, rfl, ?_⟩)
        refine Zp.if_eqB k_124_15 (fun c_15 => ?_) (fun c_15 => absurd c_15 (by omega))
        refine Zp.iconst (-1) k_124_24 (by decide) ?_
        refine Zp.iret _ k_124_25 vr_124 rfl ?_
        exact hq I pc (FrC.rf I)
      · obtain ⟨m3, ⟨mp, xp⟩, m4, ms1, ms2, ms3, mk0, mk1, mi0, mi1, mt, mb, mf, mr, mh⟩ := id pm
        refine Zm.go [some (.ref _), some (.int _), some (.int _), some (.int _), none] vl_224 rfl ?_
        refine Zp.iload_n k_224_0 rfl ?_
        refine Zp.iload_n k_224_1 rfl ?_
        refine Zp.calls2I vs_223 k_224_2 (Nat.le_of_ble_eq_true rfl) (Nat.le_of_ble_eq_true rfl) (c_isSheetM rfl rfl ⟨_, rfl, ?_⟩)
        refine Zp.if_eqB k_224_5 (fun c_5 => ?_) (fun c_5 => absurd c_5 (by omega))
        refine Zp.iconst (-1) k_224_14 (by decide) ?_
        refine Zp.iret _ k_224_15 vr_224 rfl ?_
        first | exact hq I L pm (FrM.rf I) | exact hq I2 L pm2 (fun q hq => s2 q (by omega))
  · refine ⟨.int (-1), A, ho, fun I L Q pc hq => ?_, fun I L Q pm hq => ?_⟩
    · obtain ⟨⟨hp, lp, pp, ep⟩, hk, hi0, hi1, ht, hb, hf, hr, hh⟩ := id pc
      refine Zm.go [some (.ref _), some (.int _), some (.int _), some (.int _)] vl_124 rfl ?_
      refine Zp.iload_n k_124_0 rfl ?_
      refine Zp.iconst (nI 0) k_124_1 (by decide) ?_
      refine Zp.iconst (nI 3) k_124_2 (by decide) ?_
      refine Zp.calls3I vs_129 k_124_3 (Nat.le_of_ble_eq_true rfl) (Nat.le_of_ble_eq_true rfl) (c_isWithin rfl (nI_toInt (by omega)) (nI_toInt (by omega)) ⟨_, rfl, ?_⟩)
      refine Zp.if_eqB k_124_6 (fun c_6 => ?_) (fun c_6 => absurd c_6 (by omega))
      refine Zp.iconst (-1) k_124_24 (by decide) ?_
      refine Zp.iret _ k_124_25 vr_124 rfl ?_
      exact hq I pc (FrC.rf I)
    · obtain ⟨m3, ⟨mp, xp⟩, m4, ms1, ms2, ms3, mk0, mk1, mi0, mi1, mt, mb, mf, mr, mh⟩ := id pm
      refine Zm.go [some (.ref _), some (.int _), some (.int _), some (.int _), none] vl_224 rfl ?_
      refine Zp.iload_n k_224_0 rfl ?_
      refine Zp.iload_n k_224_1 rfl ?_
      refine Zp.calls2I vs_223 k_224_2 (Nat.le_of_ble_eq_true rfl) (Nat.le_of_ble_eq_true rfl) (c_isSheetM rfl rfl ⟨_, rfl, ?_⟩)
      refine Zp.if_eqB k_224_5 (fun c_5 => ?_) (fun c_5 => absurd c_5 (by omega))
      refine Zp.iconst (-1) k_224_14 (by decide) ?_
      refine Zp.iret _ k_224_15 vr_224 rfl ?_
      first | exact hq I L pm (FrM.rf I) | exact hq I2 L pm2 (fun q hq => s2 q (by omega))
theorem B_lay (ho : Ao A) : zBoth G 125 225 [.int x, .int y, .int z] A := by
  obtain ⟨⟨so, sz, sst, lo, po, eo⟩, ok0, ok1, oi0, oi1, ot, ob, of_, or_, oh⟩ := id ho
  obtain ⟨o1, o2, o3, o4, o5, o6, o7⟩ := id so
  obtain ⟨p1, p2, p3⟩ := id lo
  obtain ⟨u1, u2⟩ := id po
  obtain ⟨e1, e2⟩ := id eo
  by_cases v : 0 ≤ x.toInt ∧ x.toInt ≤ 3
  · obtain ⟨k, hk4, rfl, ek⟩ := zin_nI (n := 4) v.1 (by omega)
    have oh1 := oh k hk4
    rcases (by omega : k = 0 ∨ k = 1 ∨ k = 2 ∨ k = 3) with rfl | rfl | rfl | rfl
    · by_cases w : (aH A 0).1 = 0
      · refine ⟨.int (-11), A, ho, fun I L Q pc hq => ?_, fun I L Q pm hq => ?_⟩
        · obtain ⟨⟨hp, lp, pp, ep⟩, hk, hi0, hi1, ht, hb, hf, hr, hh⟩ := id pc
          have h0 := hh 0 (by decide)
          refine Zm.go [some (.ref _), some (.int _), some (.int _), some (.int _)] vl_125 rfl ?_
          refine Zp.iload_n k_125_0 rfl ?_
          refine Zp.iconst (nI 0) k_125_1 (by decide) ?_
          refine Zp.iconst (nI 3) k_125_2 (by decide) ?_
          refine Zp.calls3I vs_129 k_125_3 (Nat.le_of_ble_eq_true rfl) (Nat.le_of_ble_eq_true rfl) (c_isWithin (nI_toInt (by omega)) (nI_toInt (by omega)) (nI_toInt (by omega)) ⟨_, rfl, ?_⟩)
          refine Zp.if_neB k_125_6 (fun c_6 => ?_) (fun c_6 => absurd c_6 (by omega))
          refine Zp.aload_n k_125_11 rfl ?_
          refine Zp.getR k_125_12 rfl (zlt rfl) m_0 r_0_8 ?_
          refine Zp.iload_n k_125_15 rfl ?_
          refine Zp.aald 0 k_125_16 m_58 (by decide) rfl (by decide) (zlt rfl) r_58_0 ?_
          refine Zp.callv0I v_42 k_125_17 m_85 (Nat.le_of_ble_eq_true rfl) (Nat.le_of_ble_eq_true rfl) (c_isNothing m_85 (h0.1 w) ⟨_, rfl, ?_⟩)
          refine Zp.if_eqB k_125_20 (fun c_20 => (by first | exact absurd c_20 trivial | exact absurd trivial c_20)) (fun c_20 => ?_)
          refine Zp.bipush (-11) k_125_23 (by decide) ?_
          refine Zp.iret _ k_125_25 vr_125 rfl ?_
          exact hq I pc (FrC.rf I)
        · obtain ⟨m3, ⟨mp, xp⟩, m4, ms1, ms2, ms3, mk0, mk1, mi0, mi1, mt, mb, mf, mr, mh⟩ := id pm
          have h0 := mh 0 (by decide)
          refine Zm.go [some (.ref _), some (.int _), some (.int _), some (.int _)] vl_225 rfl ?_
          refine Zp.iload_n k_225_0 rfl ?_
          refine Zp.iconst (nI 0) k_225_1 (by decide) ?_
          refine Zp.calls2I vs_223 k_225_2 (Nat.le_of_ble_eq_true rfl) (Nat.le_of_ble_eq_true rfl) (c_isSheetM (nI_toInt (by omega)) (nI_toInt (by omega)) ⟨_, rfl, ?_⟩)
          refine Zp.if_neB k_225_5 (fun c_5 => ?_) (fun c_5 => absurd c_5 (by omega))
          refine Zp.aload_n k_225_10 rfl ?_
          refine Zp.getR k_225_11 rfl (zlt rfl) m_93 r_93_31 ?_
          refine Zp.iload_n k_225_14 rfl ?_
          refine Zp.iald _ k_225_15 m_107 rfl (by omega) (zlt rfl) (h0.1 w) ?_
          refine Zp.bipush (-4) k_225_16 (by decide) ?_
          refine Zp.icmp_neZ (-4) (-4) k_225_18 (by decide) (by decide) (fun c_18 => absurd c_18 (by omega)) (fun c_18 => ?_)
          refine Zp.bipush (-11) k_225_21 (by decide) ?_
          refine Zp.iret _ k_225_23 vr_225 rfl ?_
          first | exact hq I L pm (FrM.rf I) | exact hq I2 L pm2 (fun q hq => s2 q (by omega))
      · by_cases u : 0 ≤ y.toInt ∧ y.toInt < ((aH A 0).2.1 : Int)
        · obtain ⟨i, hi, rfl, ei⟩ := zin_nI u.1 u.2
          refine ⟨.int (nI 1), wH A 0 ((aH A 0).1, (aH A 0).2.1, hUp (aH A 0).2.2 i (lvV ((aH A 0).1 - 1) z)), ho.sheet oh1.1 oh1.2, fun I L Q pc hq => ?_, fun I L Q pm hq => ?_⟩
          · obtain ⟨⟨hp, lp, pp, ep⟩, hk, hi0, hi1, ht, hb, hf, hr, hh⟩ := id pc
            have h0 := (hh 0 (by decide)).2 w
            refine Zm.go [some (.ref _), some (.int _), some (.int _), some (.int _)] vl_125 rfl ?_
            refine Zp.iload_n k_125_0 rfl ?_
            refine Zp.iconst (nI 0) k_125_1 (by decide) ?_
            refine Zp.iconst (nI 3) k_125_2 (by decide) ?_
            refine Zp.calls3I vs_129 k_125_3 (Nat.le_of_ble_eq_true rfl) (Nat.le_of_ble_eq_true rfl) (c_isWithin (nI_toInt (by omega)) (nI_toInt (by omega)) (nI_toInt (by omega)) ⟨_, rfl, ?_⟩)
            refine Zp.if_neB k_125_6 (fun c_6 => ?_) (fun c_6 => absurd c_6 (by omega))
            refine Zp.aload_n k_125_11 rfl ?_
            refine Zp.getR k_125_12 rfl (zlt rfl) m_0 r_0_8 ?_
            refine Zp.iload_n k_125_15 rfl ?_
            refine Zp.aald 0 k_125_16 m_58 (by decide) rfl (by decide) (zlt rfl) r_58_0 ?_
            refine Zp.callv0I v_42 k_125_17 m_85 (Nat.le_of_ble_eq_true rfl) (Nat.le_of_ble_eq_true rfl) (c_isNothingN m_85 h0.1 (by omega) ⟨_, rfl, ?_⟩)
            refine Zp.if_eqB k_125_20 (fun c_20 => ?_) (fun c_20 => (by first | exact absurd c_20 id | exact absurd id c_20))
            refine Zp.aload_n k_125_26 rfl ?_
            refine Zp.getR k_125_27 rfl (zlt rfl) m_0 r_0_8 ?_
            refine Zp.iload_n k_125_30 rfl ?_
            refine Zp.aald 0 k_125_31 m_58 (by decide) rfl (by decide) (zlt rfl) r_58_0 ?_
            refine Zp.iload_n k_125_32 rfl ?_
            refine Zp.callv1I v_43 k_125_33 m_85 (Nat.le_of_ble_eq_true rfl) (Nat.le_of_ble_eq_true rfl) (c_has6 m_85 h0.1 (by omega) ⟨_, rfl, ?_⟩)
            refine Zp.if_neB k_125_36 (fun c_36 => ?_) (fun c_36 => absurd c_36 (by omega))
            refine Zp.aload_n k_125_42 rfl ?_
            refine Zp.getR k_125_43 rfl (zlt rfl) m_0 r_0_8 ?_
            refine Zp.iload_n k_125_46 rfl ?_
            refine Zp.aald 0 k_125_47 m_58 (by decide) rfl (by decide) (zlt rfl) r_58_0 ?_
            refine Zp.iload_n k_125_48 rfl ?_
            refine Zp.iload_n k_125_49 rfl ?_
            refine Zp.callv2V v_45 k_125_50 m_85 (Nat.le_of_ble_eq_true rfl) (Nat.le_of_ble_eq_true rfl) (c_layDown m_85 r_85_1 m_86 h0.2.1 (by omega) (by omega) ⟨rfl, ?_⟩)
            refine Zp.iconst (nI 1) k_125_53 (by decide) ?_
            refine Zp.iret _ k_125_54 vr_125 rfl ?_
            refine hq _ (pc.sheet ⟨fun h => absurd h w, fun _ => ⟨by rw [zpu_q _ _ _ (by omega)]; exact h0.1, by rw [zpu_q _ _ _ (by omega)]; exact h0.2.1, fun j hj => ?_⟩⟩ (fun q h1 h2 => zpu_q _ _ _ (by omega)) (by decide)) (fun q h => zpu_q _ _ _ (by omega))
            show zpu I 86 i _ 86 j = if j = i then _ else (aH A 0).2.2 j
            by_cases e : j = i
            · subst e; rw [zpu_s, if_pos rfl]
            · rw [zpu_k _ _ _ e, if_neg e]; exact h0.2.2 j hj
          · obtain ⟨m3, ⟨mp, xp⟩, m4, ms1, ms2, ms3, mk0, mk1, mi0, mi1, mt, mb, mf, mr, mh⟩ := id pm
            have h0 := (mh 0 (by decide)).2 w
            refine Zm.go [some (.ref _), some (.int _), some (.int _), some (.int _)] vl_225 rfl ?_
            refine Zp.iload_n k_225_0 rfl ?_
            refine Zp.iconst (nI 0) k_225_1 (by decide) ?_
            refine Zp.calls2I vs_223 k_225_2 (Nat.le_of_ble_eq_true rfl) (Nat.le_of_ble_eq_true rfl) (c_isSheetM (nI_toInt (by omega)) (nI_toInt (by omega)) ⟨_, rfl, ?_⟩)
            refine Zp.if_neB k_225_5 (fun c_5 => ?_) (fun c_5 => absurd c_5 (by omega))
            refine Zp.aload_n k_225_10 rfl ?_
            refine Zp.getR k_225_11 rfl (zlt rfl) m_93 r_93_31 ?_
            refine Zp.iload_n k_225_14 rfl ?_
            refine Zp.iald _ k_225_15 m_107 rfl (by omega) (zlt rfl) h0.1 ?_
            refine Zp.bipush (-4) k_225_16 (by decide) ?_
            refine Zp.icmp_neZ _ (-4) k_225_18 (nI_toInt (by omega)) (by decide) (fun c_18 => ?_) (fun c_18 => absurd c_18 (by omega))
            refine Zp.iload_n k_225_24 rfl ?_
            refine Zp.i2l k_225_25 ?_
            refine Zp.lconst (lN 0) k_225_26 (by decide) ?_
            refine Zp.aload_n k_225_27 rfl ?_
            refine Zp.getR k_225_28 rfl (zlt rfl) m_93 r_93_32 ?_
            refine Zp.iload_n k_225_31 rfl ?_
            refine Zp.iald _ k_225_32 m_108 rfl (by omega) (zlt rfl) h0.2.1 ?_
            refine Zp.iconst (nI 1) k_225_33 (by decide) ?_
            refine Zp.isub k_225_34 ?_
            refine Zp.i2l k_225_35 ?_
            refine Zp.calls3I vs_131 k_225_36 (Nat.le_of_ble_eq_true rfl) (Nat.le_of_ble_eq_true rfl) (c_in (zi2n (by omega)) (lN_z (by decide)) (zm1 (by omega)) ⟨_, rfl, ?_⟩)
            refine Zp.if_neB k_225_39 (fun c_39 => ?_) (fun c_39 => absurd c_39 (by omega))
            refine Zp.aload_n k_225_45 rfl ?_
            refine Zp.getR k_225_46 rfl (zlt rfl) m_93 r_93_33 ?_
            refine Zp.bipush (nI 40) k_225_49 (by decide) ?_
            refine Zp.iload_n k_225_51 rfl ?_
            refine Zp.imulN k_225_52 ?_
            refine Zp.iload_n k_225_53 rfl ?_
            refine Zp.iaddN k_225_54 ?_
            refine Zp.aload_n k_225_55 rfl ?_
            refine Zp.getR k_225_56 rfl (zlt rfl) m_93 r_93_31 ?_
            refine Zp.iload_n k_225_59 rfl ?_
            refine Zp.iald _ k_225_60 m_107 rfl (by omega) (zlt rfl) h0.1 ?_
            refine Zp.if_neN k_225_61 (by omega) (fun c_61 => ?_) (fun c_61 => ?_)
            · refine Zp.aload_n k_225_69 rfl ?_
              refine Zp.getR k_225_70 rfl (zlt rfl) m_93 r_93_31 ?_
              refine Zp.iload_n k_225_73 rfl ?_
              refine Zp.iald _ k_225_74 m_107 rfl (by omega) (zlt rfl) h0.1 ?_
              refine Zp.iconst (nI 1) k_225_75 (by decide) ?_
              refine Zp.icmp_neN k_225_76 (by omega) (by omega) (fun c_76 => ?_) (fun c_76 => ?_)
              · refine Zp.iload_n k_225_84 rfl ?_
                refine Zp.iast _ k_225_85 m_109 rfl (by omega) (zlt rfl) ?_
                refine Zp.iconst (nI 1) k_225_86 (by decide) ?_
                refine Zp.iret _ k_225_87 vr_225 rfl ?_
                refine hq _ _ (pm.sheet ho ⟨fun h => absurd h w, fun _ => ⟨by rw [zpu_q _ _ _ (by decide)]; exact h0.1, by rw [zpu_q _ _ _ (by decide)]; exact h0.2.1, fun j hj => ?_⟩⟩ (fun q h1 h2 h3 => zpu_q _ _ _ h3) (fun j h => by rw [zpu_q _ _ _ (by decide)]) (fun j h => by rw [zpu_q _ _ _ (by decide)]) (fun j h => zpu_k _ _ _ (by omega))) (fun q h => zpu_q _ _ _ (by omega))
                show zpu I 109 (40 * 0 + i) _ 109 (40 * 0 + j) = if j = i then _ else (aH A 0).2.2 j
                by_cases e : j = i
                · subst e; rw [zpu_s, if_pos rfl]; unfold lvV; first | rw [if_pos (by omega)] | rw [if_neg (by omega), if_pos (by omega)] | rw [if_neg (by omega), if_neg (by omega)]
                · rw [zpu_k _ _ _ (by omega), if_neg e]; exact h0.2.2 j hj
              · refine Zp.iload_n k_225_79 rfl ?_
                refine Zp.i2s k_225_80 ?_
                refine Zp.goto k_225_81 ?_
                refine Zp.iast _ k_225_85 m_109 rfl (by omega) (zlt rfl) ?_
                refine Zp.iconst (nI 1) k_225_86 (by decide) ?_
                refine Zp.iret _ k_225_87 vr_225 rfl ?_
                refine hq _ _ (pm.sheet ho ⟨fun h => absurd h w, fun _ => ⟨by rw [zpu_q _ _ _ (by decide)]; exact h0.1, by rw [zpu_q _ _ _ (by decide)]; exact h0.2.1, fun j hj => ?_⟩⟩ (fun q h1 h2 h3 => zpu_q _ _ _ h3) (fun j h => by rw [zpu_q _ _ _ (by decide)]) (fun j h => by rw [zpu_q _ _ _ (by decide)]) (fun j h => zpu_k _ _ _ (by omega))) (fun q h => zpu_q _ _ _ (by omega))
                show zpu I 109 (40 * 0 + i) _ 109 (40 * 0 + j) = if j = i then _ else (aH A 0).2.2 j
                by_cases e : j = i
                · subst e; rw [zpu_s, if_pos rfl]; unfold lvV; first | rw [if_pos (by omega)] | rw [if_neg (by omega), if_pos (by omega)] | rw [if_neg (by omega), if_neg (by omega)]
                · rw [zpu_k _ _ _ (by omega), if_neg e]; exact h0.2.2 j hj
            · refine Zp.iload_n k_225_64 rfl ?_
              refine Zp.i2b k_225_65 ?_
              refine Zp.goto k_225_66 ?_
              refine Zp.iast _ k_225_85 m_109 rfl (by omega) (zlt rfl) ?_
              refine Zp.iconst (nI 1) k_225_86 (by decide) ?_
              refine Zp.iret _ k_225_87 vr_225 rfl ?_
              refine hq _ _ (pm.sheet ho ⟨fun h => absurd h w, fun _ => ⟨by rw [zpu_q _ _ _ (by decide)]; exact h0.1, by rw [zpu_q _ _ _ (by decide)]; exact h0.2.1, fun j hj => ?_⟩⟩ (fun q h1 h2 h3 => zpu_q _ _ _ h3) (fun j h => by rw [zpu_q _ _ _ (by decide)]) (fun j h => by rw [zpu_q _ _ _ (by decide)]) (fun j h => zpu_k _ _ _ (by omega))) (fun q h => zpu_q _ _ _ (by omega))
              show zpu I 109 (40 * 0 + i) _ 109 (40 * 0 + j) = if j = i then _ else (aH A 0).2.2 j
              by_cases e : j = i
              · subst e; rw [zpu_s, if_pos rfl]; unfold lvV; first | rw [if_pos (by omega)] | rw [if_neg (by omega), if_pos (by omega)] | rw [if_neg (by omega), if_neg (by omega)]
              · rw [zpu_k _ _ _ (by omega), if_neg e]; exact h0.2.2 j hj
        · refine ⟨.int (-12), A, ho, fun I L Q pc hq => ?_, fun I L Q pm hq => ?_⟩
          · obtain ⟨⟨hp, lp, pp, ep⟩, hk, hi0, hi1, ht, hb, hf, hr, hh⟩ := id pc
            have h0 := (hh 0 (by decide)).2 w
            refine Zm.go [some (.ref _), some (.int _), some (.int _), some (.int _)] vl_125 rfl ?_
            refine Zp.iload_n k_125_0 rfl ?_
            refine Zp.iconst (nI 0) k_125_1 (by decide) ?_
            refine Zp.iconst (nI 3) k_125_2 (by decide) ?_
            refine Zp.calls3I vs_129 k_125_3 (Nat.le_of_ble_eq_true rfl) (Nat.le_of_ble_eq_true rfl) (c_isWithin (nI_toInt (by omega)) (nI_toInt (by omega)) (nI_toInt (by omega)) ⟨_, rfl, ?_⟩)
            refine Zp.if_neB k_125_6 (fun c_6 => ?_) (fun c_6 => absurd c_6 (by omega))
            refine Zp.aload_n k_125_11 rfl ?_
            refine Zp.getR k_125_12 rfl (zlt rfl) m_0 r_0_8 ?_
            refine Zp.iload_n k_125_15 rfl ?_
            refine Zp.aald 0 k_125_16 m_58 (by decide) rfl (by decide) (zlt rfl) r_58_0 ?_
            refine Zp.callv0I v_42 k_125_17 m_85 (Nat.le_of_ble_eq_true rfl) (Nat.le_of_ble_eq_true rfl) (c_isNothingN m_85 h0.1 (by omega) ⟨_, rfl, ?_⟩)
            refine Zp.if_eqB k_125_20 (fun c_20 => ?_) (fun c_20 => (by first | exact absurd c_20 id | exact absurd id c_20))
            refine Zp.aload_n k_125_26 rfl ?_
            refine Zp.getR k_125_27 rfl (zlt rfl) m_0 r_0_8 ?_
            refine Zp.iload_n k_125_30 rfl ?_
            refine Zp.aald 0 k_125_31 m_58 (by decide) rfl (by decide) (zlt rfl) r_58_0 ?_
            refine Zp.iload_n k_125_32 rfl ?_
            refine Zp.callv1I v_43 k_125_33 m_85 (Nat.le_of_ble_eq_true rfl) (Nat.le_of_ble_eq_true rfl) (c_has6 m_85 h0.1 (by omega) ⟨_, rfl, ?_⟩)
            refine Zp.if_neB k_125_36 (fun c_36 => absurd c_36 (by omega)) (fun c_36 => ?_)
            refine Zp.bipush (-12) k_125_39 (by decide) ?_
            refine Zp.iret _ k_125_41 vr_125 rfl ?_
            exact hq I pc (FrC.rf I)
          · obtain ⟨m3, ⟨mp, xp⟩, m4, ms1, ms2, ms3, mk0, mk1, mi0, mi1, mt, mb, mf, mr, mh⟩ := id pm
            have h0 := (mh 0 (by decide)).2 w
            refine Zm.go [some (.ref _), some (.int _), some (.int _), some (.int _)] vl_225 rfl ?_
            refine Zp.iload_n k_225_0 rfl ?_
            refine Zp.iconst (nI 0) k_225_1 (by decide) ?_
            refine Zp.calls2I vs_223 k_225_2 (Nat.le_of_ble_eq_true rfl) (Nat.le_of_ble_eq_true rfl) (c_isSheetM (nI_toInt (by omega)) (nI_toInt (by omega)) ⟨_, rfl, ?_⟩)
            refine Zp.if_neB k_225_5 (fun c_5 => ?_) (fun c_5 => absurd c_5 (by omega))
            refine Zp.aload_n k_225_10 rfl ?_
            refine Zp.getR k_225_11 rfl (zlt rfl) m_93 r_93_31 ?_
            refine Zp.iload_n k_225_14 rfl ?_
            refine Zp.iald _ k_225_15 m_107 rfl (by omega) (zlt rfl) h0.1 ?_
            refine Zp.bipush (-4) k_225_16 (by decide) ?_
            refine Zp.icmp_neZ _ (-4) k_225_18 (nI_toInt (by omega)) (by decide) (fun c_18 => ?_) (fun c_18 => absurd c_18 (by omega))
            refine Zp.iload_n k_225_24 rfl ?_
            refine Zp.i2l k_225_25 ?_
            refine Zp.lconst (lN 0) k_225_26 (by decide) ?_
            refine Zp.aload_n k_225_27 rfl ?_
            refine Zp.getR k_225_28 rfl (zlt rfl) m_93 r_93_32 ?_
            refine Zp.iload_n k_225_31 rfl ?_
            refine Zp.iald _ k_225_32 m_108 rfl (by omega) (zlt rfl) h0.2.1 ?_
            refine Zp.iconst (nI 1) k_225_33 (by decide) ?_
            refine Zp.isub k_225_34 ?_
            refine Zp.i2l k_225_35 ?_
            refine Zp.calls3I vs_131 k_225_36 (Nat.le_of_ble_eq_true rfl) (Nat.le_of_ble_eq_true rfl) (c_in (zi2l _) (lN_z (by decide)) (zm1 (by omega)) ⟨_, rfl, ?_⟩)
            refine Zp.if_neB k_225_39 (fun c_39 => absurd c_39 (by omega)) (fun c_39 => ?_)
            refine Zp.bipush (-12) k_225_42 (by decide) ?_
            refine Zp.iret _ k_225_44 vr_225 rfl ?_
            first | exact hq I L pm (FrM.rf I) | exact hq I2 L pm2 (fun q hq => s2 q (by omega))
    · by_cases w : (aH A 1).1 = 0
      · refine ⟨.int (-11), A, ho, fun I L Q pc hq => ?_, fun I L Q pm hq => ?_⟩
        · obtain ⟨⟨hp, lp, pp, ep⟩, hk, hi0, hi1, ht, hb, hf, hr, hh⟩ := id pc
          have h0 := hh 1 (by decide)
          refine Zm.go [some (.ref _), some (.int _), some (.int _), some (.int _)] vl_125 rfl ?_
          refine Zp.iload_n k_125_0 rfl ?_
          refine Zp.iconst (nI 0) k_125_1 (by decide) ?_
          refine Zp.iconst (nI 3) k_125_2 (by decide) ?_
          refine Zp.calls3I vs_129 k_125_3 (Nat.le_of_ble_eq_true rfl) (Nat.le_of_ble_eq_true rfl) (c_isWithin (nI_toInt (by omega)) (nI_toInt (by omega)) (nI_toInt (by omega)) ⟨_, rfl, ?_⟩)
          refine Zp.if_neB k_125_6 (fun c_6 => ?_) (fun c_6 => absurd c_6 (by omega))
          refine Zp.aload_n k_125_11 rfl ?_
          refine Zp.getR k_125_12 rfl (zlt rfl) m_0 r_0_8 ?_
          refine Zp.iload_n k_125_15 rfl ?_
          refine Zp.aald 1 k_125_16 m_58 (by decide) rfl (by decide) (zlt rfl) r_58_1 ?_
          refine Zp.callv0I v_42 k_125_17 m_87 (Nat.le_of_ble_eq_true rfl) (Nat.le_of_ble_eq_true rfl) (c_isNothing m_87 (h0.1 w) ⟨_, rfl, ?_⟩)
          refine Zp.if_eqB k_125_20 (fun c_20 => (by first | exact absurd c_20 trivial | exact absurd trivial c_20)) (fun c_20 => ?_)
          refine Zp.bipush (-11) k_125_23 (by decide) ?_
          refine Zp.iret _ k_125_25 vr_125 rfl ?_
          exact hq I pc (FrC.rf I)
        · obtain ⟨m3, ⟨mp, xp⟩, m4, ms1, ms2, ms3, mk0, mk1, mi0, mi1, mt, mb, mf, mr, mh⟩ := id pm
          have h0 := mh 1 (by decide)
          refine Zm.go [some (.ref _), some (.int _), some (.int _), some (.int _)] vl_225 rfl ?_
          refine Zp.iload_n k_225_0 rfl ?_
          refine Zp.iconst (nI 0) k_225_1 (by decide) ?_
          refine Zp.calls2I vs_223 k_225_2 (Nat.le_of_ble_eq_true rfl) (Nat.le_of_ble_eq_true rfl) (c_isSheetM (nI_toInt (by omega)) (nI_toInt (by omega)) ⟨_, rfl, ?_⟩)
          refine Zp.if_neB k_225_5 (fun c_5 => ?_) (fun c_5 => absurd c_5 (by omega))
          refine Zp.aload_n k_225_10 rfl ?_
          refine Zp.getR k_225_11 rfl (zlt rfl) m_93 r_93_31 ?_
          refine Zp.iload_n k_225_14 rfl ?_
          refine Zp.iald _ k_225_15 m_107 rfl (by omega) (zlt rfl) (h0.1 w) ?_
          refine Zp.bipush (-4) k_225_16 (by decide) ?_
          refine Zp.icmp_neZ (-4) (-4) k_225_18 (by decide) (by decide) (fun c_18 => absurd c_18 (by omega)) (fun c_18 => ?_)
          refine Zp.bipush (-11) k_225_21 (by decide) ?_
          refine Zp.iret _ k_225_23 vr_225 rfl ?_
          first | exact hq I L pm (FrM.rf I) | exact hq I2 L pm2 (fun q hq => s2 q (by omega))
      · by_cases u : 0 ≤ y.toInt ∧ y.toInt < ((aH A 1).2.1 : Int)
        · obtain ⟨i, hi, rfl, ei⟩ := zin_nI u.1 u.2
          refine ⟨.int (nI 1), wH A 1 ((aH A 1).1, (aH A 1).2.1, hUp (aH A 1).2.2 i (lvV ((aH A 1).1 - 1) z)), ho.sheet oh1.1 oh1.2, fun I L Q pc hq => ?_, fun I L Q pm hq => ?_⟩
          · obtain ⟨⟨hp, lp, pp, ep⟩, hk, hi0, hi1, ht, hb, hf, hr, hh⟩ := id pc
            have h0 := (hh 1 (by decide)).2 w
            refine Zm.go [some (.ref _), some (.int _), some (.int _), some (.int _)] vl_125 rfl ?_
            refine Zp.iload_n k_125_0 rfl ?_
            refine Zp.iconst (nI 0) k_125_1 (by decide) ?_
            refine Zp.iconst (nI 3) k_125_2 (by decide) ?_
            refine Zp.calls3I vs_129 k_125_3 (Nat.le_of_ble_eq_true rfl) (Nat.le_of_ble_eq_true rfl) (c_isWithin (nI_toInt (by omega)) (nI_toInt (by omega)) (nI_toInt (by omega)) ⟨_, rfl, ?_⟩)
            refine Zp.if_neB k_125_6 (fun c_6 => ?_) (fun c_6 => absurd c_6 (by omega))
            refine Zp.aload_n k_125_11 rfl ?_
            refine Zp.getR k_125_12 rfl (zlt rfl) m_0 r_0_8 ?_
            refine Zp.iload_n k_125_15 rfl ?_
            refine Zp.aald 1 k_125_16 m_58 (by decide) rfl (by decide) (zlt rfl) r_58_1 ?_
            refine Zp.callv0I v_42 k_125_17 m_87 (Nat.le_of_ble_eq_true rfl) (Nat.le_of_ble_eq_true rfl) (c_isNothingN m_87 h0.1 (by omega) ⟨_, rfl, ?_⟩)
            refine Zp.if_eqB k_125_20 (fun c_20 => ?_) (fun c_20 => (by first | exact absurd c_20 id | exact absurd id c_20))
            refine Zp.aload_n k_125_26 rfl ?_
            refine Zp.getR k_125_27 rfl (zlt rfl) m_0 r_0_8 ?_
            refine Zp.iload_n k_125_30 rfl ?_
            refine Zp.aald 1 k_125_31 m_58 (by decide) rfl (by decide) (zlt rfl) r_58_1 ?_
            refine Zp.iload_n k_125_32 rfl ?_
            refine Zp.callv1I v_43 k_125_33 m_87 (Nat.le_of_ble_eq_true rfl) (Nat.le_of_ble_eq_true rfl) (c_has6 m_87 h0.1 (by omega) ⟨_, rfl, ?_⟩)
            refine Zp.if_neB k_125_36 (fun c_36 => ?_) (fun c_36 => absurd c_36 (by omega))
            refine Zp.aload_n k_125_42 rfl ?_
            refine Zp.getR k_125_43 rfl (zlt rfl) m_0 r_0_8 ?_
            refine Zp.iload_n k_125_46 rfl ?_
            refine Zp.aald 1 k_125_47 m_58 (by decide) rfl (by decide) (zlt rfl) r_58_1 ?_
            refine Zp.iload_n k_125_48 rfl ?_
            refine Zp.iload_n k_125_49 rfl ?_
            refine Zp.callv2V v_45 k_125_50 m_87 (Nat.le_of_ble_eq_true rfl) (Nat.le_of_ble_eq_true rfl) (c_layDown m_87 r_87_1 m_88 h0.2.1 (by omega) (by omega) ⟨rfl, ?_⟩)
            refine Zp.iconst (nI 1) k_125_53 (by decide) ?_
            refine Zp.iret _ k_125_54 vr_125 rfl ?_
            refine hq _ (pc.sheet ⟨fun h => absurd h w, fun _ => ⟨by rw [zpu_q _ _ _ (by omega)]; exact h0.1, by rw [zpu_q _ _ _ (by omega)]; exact h0.2.1, fun j hj => ?_⟩⟩ (fun q h1 h2 => zpu_q _ _ _ (by omega)) (by decide)) (fun q h => zpu_q _ _ _ (by omega))
            show zpu I 88 i _ 88 j = if j = i then _ else (aH A 1).2.2 j
            by_cases e : j = i
            · subst e; rw [zpu_s, if_pos rfl]
            · rw [zpu_k _ _ _ e, if_neg e]; exact h0.2.2 j hj
          · obtain ⟨m3, ⟨mp, xp⟩, m4, ms1, ms2, ms3, mk0, mk1, mi0, mi1, mt, mb, mf, mr, mh⟩ := id pm
            have h0 := (mh 1 (by decide)).2 w
            refine Zm.go [some (.ref _), some (.int _), some (.int _), some (.int _)] vl_225 rfl ?_
            refine Zp.iload_n k_225_0 rfl ?_
            refine Zp.iconst (nI 0) k_225_1 (by decide) ?_
            refine Zp.calls2I vs_223 k_225_2 (Nat.le_of_ble_eq_true rfl) (Nat.le_of_ble_eq_true rfl) (c_isSheetM (nI_toInt (by omega)) (nI_toInt (by omega)) ⟨_, rfl, ?_⟩)
            refine Zp.if_neB k_225_5 (fun c_5 => ?_) (fun c_5 => absurd c_5 (by omega))
            refine Zp.aload_n k_225_10 rfl ?_
            refine Zp.getR k_225_11 rfl (zlt rfl) m_93 r_93_31 ?_
            refine Zp.iload_n k_225_14 rfl ?_
            refine Zp.iald _ k_225_15 m_107 rfl (by omega) (zlt rfl) h0.1 ?_
            refine Zp.bipush (-4) k_225_16 (by decide) ?_
            refine Zp.icmp_neZ _ (-4) k_225_18 (nI_toInt (by omega)) (by decide) (fun c_18 => ?_) (fun c_18 => absurd c_18 (by omega))
            refine Zp.iload_n k_225_24 rfl ?_
            refine Zp.i2l k_225_25 ?_
            refine Zp.lconst (lN 0) k_225_26 (by decide) ?_
            refine Zp.aload_n k_225_27 rfl ?_
            refine Zp.getR k_225_28 rfl (zlt rfl) m_93 r_93_32 ?_
            refine Zp.iload_n k_225_31 rfl ?_
            refine Zp.iald _ k_225_32 m_108 rfl (by omega) (zlt rfl) h0.2.1 ?_
            refine Zp.iconst (nI 1) k_225_33 (by decide) ?_
            refine Zp.isub k_225_34 ?_
            refine Zp.i2l k_225_35 ?_
            refine Zp.calls3I vs_131 k_225_36 (Nat.le_of_ble_eq_true rfl) (Nat.le_of_ble_eq_true rfl) (c_in (zi2n (by omega)) (lN_z (by decide)) (zm1 (by omega)) ⟨_, rfl, ?_⟩)
            refine Zp.if_neB k_225_39 (fun c_39 => ?_) (fun c_39 => absurd c_39 (by omega))
            refine Zp.aload_n k_225_45 rfl ?_
            refine Zp.getR k_225_46 rfl (zlt rfl) m_93 r_93_33 ?_
            refine Zp.bipush (nI 40) k_225_49 (by decide) ?_
            refine Zp.iload_n k_225_51 rfl ?_
            refine Zp.imulN k_225_52 ?_
            refine Zp.iload_n k_225_53 rfl ?_
            refine Zp.iaddN k_225_54 ?_
            refine Zp.aload_n k_225_55 rfl ?_
            refine Zp.getR k_225_56 rfl (zlt rfl) m_93 r_93_31 ?_
            refine Zp.iload_n k_225_59 rfl ?_
            refine Zp.iald _ k_225_60 m_107 rfl (by omega) (zlt rfl) h0.1 ?_
            refine Zp.if_neN k_225_61 (by omega) (fun c_61 => ?_) (fun c_61 => ?_)
            · refine Zp.aload_n k_225_69 rfl ?_
              refine Zp.getR k_225_70 rfl (zlt rfl) m_93 r_93_31 ?_
              refine Zp.iload_n k_225_73 rfl ?_
              refine Zp.iald _ k_225_74 m_107 rfl (by omega) (zlt rfl) h0.1 ?_
              refine Zp.iconst (nI 1) k_225_75 (by decide) ?_
              refine Zp.icmp_neN k_225_76 (by omega) (by omega) (fun c_76 => ?_) (fun c_76 => ?_)
              · refine Zp.iload_n k_225_84 rfl ?_
                refine Zp.iast _ k_225_85 m_109 rfl (by omega) (zlt rfl) ?_
                refine Zp.iconst (nI 1) k_225_86 (by decide) ?_
                refine Zp.iret _ k_225_87 vr_225 rfl ?_
                refine hq _ _ (pm.sheet ho ⟨fun h => absurd h w, fun _ => ⟨by rw [zpu_q _ _ _ (by decide)]; exact h0.1, by rw [zpu_q _ _ _ (by decide)]; exact h0.2.1, fun j hj => ?_⟩⟩ (fun q h1 h2 h3 => zpu_q _ _ _ h3) (fun j h => by rw [zpu_q _ _ _ (by decide)]) (fun j h => by rw [zpu_q _ _ _ (by decide)]) (fun j h => zpu_k _ _ _ (by omega))) (fun q h => zpu_q _ _ _ (by omega))
                show zpu I 109 (40 * 1 + i) _ 109 (40 * 1 + j) = if j = i then _ else (aH A 1).2.2 j
                by_cases e : j = i
                · subst e; rw [zpu_s, if_pos rfl]; unfold lvV; first | rw [if_pos (by omega)] | rw [if_neg (by omega), if_pos (by omega)] | rw [if_neg (by omega), if_neg (by omega)]
                · rw [zpu_k _ _ _ (by omega), if_neg e]; exact h0.2.2 j hj
              · refine Zp.iload_n k_225_79 rfl ?_
                refine Zp.i2s k_225_80 ?_
                refine Zp.goto k_225_81 ?_
                refine Zp.iast _ k_225_85 m_109 rfl (by omega) (zlt rfl) ?_
                refine Zp.iconst (nI 1) k_225_86 (by decide) ?_
                refine Zp.iret _ k_225_87 vr_225 rfl ?_
                refine hq _ _ (pm.sheet ho ⟨fun h => absurd h w, fun _ => ⟨by rw [zpu_q _ _ _ (by decide)]; exact h0.1, by rw [zpu_q _ _ _ (by decide)]; exact h0.2.1, fun j hj => ?_⟩⟩ (fun q h1 h2 h3 => zpu_q _ _ _ h3) (fun j h => by rw [zpu_q _ _ _ (by decide)]) (fun j h => by rw [zpu_q _ _ _ (by decide)]) (fun j h => zpu_k _ _ _ (by omega))) (fun q h => zpu_q _ _ _ (by omega))
                show zpu I 109 (40 * 1 + i) _ 109 (40 * 1 + j) = if j = i then _ else (aH A 1).2.2 j
                by_cases e : j = i
                · subst e; rw [zpu_s, if_pos rfl]; unfold lvV; first | rw [if_pos (by omega)] | rw [if_neg (by omega), if_pos (by omega)] | rw [if_neg (by omega), if_neg (by omega)]
                · rw [zpu_k _ _ _ (by omega), if_neg e]; exact h0.2.2 j hj
            · refine Zp.iload_n k_225_64 rfl ?_
              refine Zp.i2b k_225_65 ?_
              refine Zp.goto k_225_66 ?_
              refine Zp.iast _ k_225_85 m_109 rfl (by omega) (zlt rfl) ?_
              refine Zp.iconst (nI 1) k_225_86 (by decide) ?_
              refine Zp.iret _ k_225_87 vr_225 rfl ?_
              refine hq _ _ (pm.sheet ho ⟨fun h => absurd h w, fun _ => ⟨by rw [zpu_q _ _ _ (by decide)]; exact h0.1, by rw [zpu_q _ _ _ (by decide)]; exact h0.2.1, fun j hj => ?_⟩⟩ (fun q h1 h2 h3 => zpu_q _ _ _ h3) (fun j h => by rw [zpu_q _ _ _ (by decide)]) (fun j h => by rw [zpu_q _ _ _ (by decide)]) (fun j h => zpu_k _ _ _ (by omega))) (fun q h => zpu_q _ _ _ (by omega))
              show zpu I 109 (40 * 1 + i) _ 109 (40 * 1 + j) = if j = i then _ else (aH A 1).2.2 j
              by_cases e : j = i
              · subst e; rw [zpu_s, if_pos rfl]; unfold lvV; first | rw [if_pos (by omega)] | rw [if_neg (by omega), if_pos (by omega)] | rw [if_neg (by omega), if_neg (by omega)]
              · rw [zpu_k _ _ _ (by omega), if_neg e]; exact h0.2.2 j hj
        · refine ⟨.int (-12), A, ho, fun I L Q pc hq => ?_, fun I L Q pm hq => ?_⟩
          · obtain ⟨⟨hp, lp, pp, ep⟩, hk, hi0, hi1, ht, hb, hf, hr, hh⟩ := id pc
            have h0 := (hh 1 (by decide)).2 w
            refine Zm.go [some (.ref _), some (.int _), some (.int _), some (.int _)] vl_125 rfl ?_
            refine Zp.iload_n k_125_0 rfl ?_
            refine Zp.iconst (nI 0) k_125_1 (by decide) ?_
            refine Zp.iconst (nI 3) k_125_2 (by decide) ?_
            refine Zp.calls3I vs_129 k_125_3 (Nat.le_of_ble_eq_true rfl) (Nat.le_of_ble_eq_true rfl) (c_isWithin (nI_toInt (by omega)) (nI_toInt (by omega)) (nI_toInt (by omega)) ⟨_, rfl, ?_⟩)
            refine Zp.if_neB k_125_6 (fun c_6 => ?_) (fun c_6 => absurd c_6 (by omega))
            refine Zp.aload_n k_125_11 rfl ?_
            refine Zp.getR k_125_12 rfl (zlt rfl) m_0 r_0_8 ?_
            refine Zp.iload_n k_125_15 rfl ?_
            refine Zp.aald 1 k_125_16 m_58 (by decide) rfl (by decide) (zlt rfl) r_58_1 ?_
            refine Zp.callv0I v_42 k_125_17 m_87 (Nat.le_of_ble_eq_true rfl) (Nat.le_of_ble_eq_true rfl) (c_isNothingN m_87 h0.1 (by omega) ⟨_, rfl, ?_⟩)
            refine Zp.if_eqB k_125_20 (fun c_20 => ?_) (fun c_20 => (by first | exact absurd c_20 id | exact absurd id c_20))
            refine Zp.aload_n k_125_26 rfl ?_
            refine Zp.getR k_125_27 rfl (zlt rfl) m_0 r_0_8 ?_
            refine Zp.iload_n k_125_30 rfl ?_
            refine Zp.aald 1 k_125_31 m_58 (by decide) rfl (by decide) (zlt rfl) r_58_1 ?_
            refine Zp.iload_n k_125_32 rfl ?_
            refine Zp.callv1I v_43 k_125_33 m_87 (Nat.le_of_ble_eq_true rfl) (Nat.le_of_ble_eq_true rfl) (c_has6 m_87 h0.1 (by omega) ⟨_, rfl, ?_⟩)
            refine Zp.if_neB k_125_36 (fun c_36 => absurd c_36 (by omega)) (fun c_36 => ?_)
            refine Zp.bipush (-12) k_125_39 (by decide) ?_
            refine Zp.iret _ k_125_41 vr_125 rfl ?_
            exact hq I pc (FrC.rf I)
          · obtain ⟨m3, ⟨mp, xp⟩, m4, ms1, ms2, ms3, mk0, mk1, mi0, mi1, mt, mb, mf, mr, mh⟩ := id pm
            have h0 := (mh 1 (by decide)).2 w
            refine Zm.go [some (.ref _), some (.int _), some (.int _), some (.int _)] vl_225 rfl ?_
            refine Zp.iload_n k_225_0 rfl ?_
            refine Zp.iconst (nI 0) k_225_1 (by decide) ?_
            refine Zp.calls2I vs_223 k_225_2 (Nat.le_of_ble_eq_true rfl) (Nat.le_of_ble_eq_true rfl) (c_isSheetM (nI_toInt (by omega)) (nI_toInt (by omega)) ⟨_, rfl, ?_⟩)
            refine Zp.if_neB k_225_5 (fun c_5 => ?_) (fun c_5 => absurd c_5 (by omega))
            refine Zp.aload_n k_225_10 rfl ?_
            refine Zp.getR k_225_11 rfl (zlt rfl) m_93 r_93_31 ?_
            refine Zp.iload_n k_225_14 rfl ?_
            refine Zp.iald _ k_225_15 m_107 rfl (by omega) (zlt rfl) h0.1 ?_
            refine Zp.bipush (-4) k_225_16 (by decide) ?_
            refine Zp.icmp_neZ _ (-4) k_225_18 (nI_toInt (by omega)) (by decide) (fun c_18 => ?_) (fun c_18 => absurd c_18 (by omega))
            refine Zp.iload_n k_225_24 rfl ?_
            refine Zp.i2l k_225_25 ?_
            refine Zp.lconst (lN 0) k_225_26 (by decide) ?_
            refine Zp.aload_n k_225_27 rfl ?_
            refine Zp.getR k_225_28 rfl (zlt rfl) m_93 r_93_32 ?_
            refine Zp.iload_n k_225_31 rfl ?_
            refine Zp.iald _ k_225_32 m_108 rfl (by omega) (zlt rfl) h0.2.1 ?_
            refine Zp.iconst (nI 1) k_225_33 (by decide) ?_
            refine Zp.isub k_225_34 ?_
            refine Zp.i2l k_225_35 ?_
            refine Zp.calls3I vs_131 k_225_36 (Nat.le_of_ble_eq_true rfl) (Nat.le_of_ble_eq_true rfl) (c_in (zi2l _) (lN_z (by decide)) (zm1 (by omega)) ⟨_, rfl, ?_⟩)
            refine Zp.if_neB k_225_39 (fun c_39 => absurd c_39 (by omega)) (fun c_39 => ?_)
            refine Zp.bipush (-12) k_225_42 (by decide) ?_
            refine Zp.iret _ k_225_44 vr_225 rfl ?_
            first | exact hq I L pm (FrM.rf I) | exact hq I2 L pm2 (fun q hq => s2 q (by omega))
    · by_cases w : (aH A 2).1 = 0
      · refine ⟨.int (-11), A, ho, fun I L Q pc hq => ?_, fun I L Q pm hq => ?_⟩
        · obtain ⟨⟨hp, lp, pp, ep⟩, hk, hi0, hi1, ht, hb, hf, hr, hh⟩ := id pc
          have h0 := hh 2 (by decide)
          refine Zm.go [some (.ref _), some (.int _), some (.int _), some (.int _)] vl_125 rfl ?_
          refine Zp.iload_n k_125_0 rfl ?_
          refine Zp.iconst (nI 0) k_125_1 (by decide) ?_
          refine Zp.iconst (nI 3) k_125_2 (by decide) ?_
          refine Zp.calls3I vs_129 k_125_3 (Nat.le_of_ble_eq_true rfl) (Nat.le_of_ble_eq_true rfl) (c_isWithin (nI_toInt (by omega)) (nI_toInt (by omega)) (nI_toInt (by omega)) ⟨_, rfl, ?_⟩)
          refine Zp.if_neB k_125_6 (fun c_6 => ?_) (fun c_6 => absurd c_6 (by omega))
          refine Zp.aload_n k_125_11 rfl ?_
          refine Zp.getR k_125_12 rfl (zlt rfl) m_0 r_0_8 ?_
          refine Zp.iload_n k_125_15 rfl ?_
          refine Zp.aald 2 k_125_16 m_58 (by decide) rfl (by decide) (zlt rfl) r_58_2 ?_
          refine Zp.callv0I v_42 k_125_17 m_89 (Nat.le_of_ble_eq_true rfl) (Nat.le_of_ble_eq_true rfl) (c_isNothing m_89 (h0.1 w) ⟨_, rfl, ?_⟩)
          refine Zp.if_eqB k_125_20 (fun c_20 => (by first | exact absurd c_20 trivial | exact absurd trivial c_20)) (fun c_20 => ?_)
          refine Zp.bipush (-11) k_125_23 (by decide) ?_
          refine Zp.iret _ k_125_25 vr_125 rfl ?_
          exact hq I pc (FrC.rf I)
        · obtain ⟨m3, ⟨mp, xp⟩, m4, ms1, ms2, ms3, mk0, mk1, mi0, mi1, mt, mb, mf, mr, mh⟩ := id pm
          have h0 := mh 2 (by decide)
          refine Zm.go [some (.ref _), some (.int _), some (.int _), some (.int _)] vl_225 rfl ?_
          refine Zp.iload_n k_225_0 rfl ?_
          refine Zp.iconst (nI 0) k_225_1 (by decide) ?_
          refine Zp.calls2I vs_223 k_225_2 (Nat.le_of_ble_eq_true rfl) (Nat.le_of_ble_eq_true rfl) (c_isSheetM (nI_toInt (by omega)) (nI_toInt (by omega)) ⟨_, rfl, ?_⟩)
          refine Zp.if_neB k_225_5 (fun c_5 => ?_) (fun c_5 => absurd c_5 (by omega))
          refine Zp.aload_n k_225_10 rfl ?_
          refine Zp.getR k_225_11 rfl (zlt rfl) m_93 r_93_31 ?_
          refine Zp.iload_n k_225_14 rfl ?_
          refine Zp.iald _ k_225_15 m_107 rfl (by omega) (zlt rfl) (h0.1 w) ?_
          refine Zp.bipush (-4) k_225_16 (by decide) ?_
          refine Zp.icmp_neZ (-4) (-4) k_225_18 (by decide) (by decide) (fun c_18 => absurd c_18 (by omega)) (fun c_18 => ?_)
          refine Zp.bipush (-11) k_225_21 (by decide) ?_
          refine Zp.iret _ k_225_23 vr_225 rfl ?_
          first | exact hq I L pm (FrM.rf I) | exact hq I2 L pm2 (fun q hq => s2 q (by omega))
      · by_cases u : 0 ≤ y.toInt ∧ y.toInt < ((aH A 2).2.1 : Int)
        · obtain ⟨i, hi, rfl, ei⟩ := zin_nI u.1 u.2
          refine ⟨.int (nI 1), wH A 2 ((aH A 2).1, (aH A 2).2.1, hUp (aH A 2).2.2 i (lvV ((aH A 2).1 - 1) z)), ho.sheet oh1.1 oh1.2, fun I L Q pc hq => ?_, fun I L Q pm hq => ?_⟩
          · obtain ⟨⟨hp, lp, pp, ep⟩, hk, hi0, hi1, ht, hb, hf, hr, hh⟩ := id pc
            have h0 := (hh 2 (by decide)).2 w
            refine Zm.go [some (.ref _), some (.int _), some (.int _), some (.int _)] vl_125 rfl ?_
            refine Zp.iload_n k_125_0 rfl ?_
            refine Zp.iconst (nI 0) k_125_1 (by decide) ?_
            refine Zp.iconst (nI 3) k_125_2 (by decide) ?_
            refine Zp.calls3I vs_129 k_125_3 (Nat.le_of_ble_eq_true rfl) (Nat.le_of_ble_eq_true rfl) (c_isWithin (nI_toInt (by omega)) (nI_toInt (by omega)) (nI_toInt (by omega)) ⟨_, rfl, ?_⟩)
            refine Zp.if_neB k_125_6 (fun c_6 => ?_) (fun c_6 => absurd c_6 (by omega))
            refine Zp.aload_n k_125_11 rfl ?_
            refine Zp.getR k_125_12 rfl (zlt rfl) m_0 r_0_8 ?_
            refine Zp.iload_n k_125_15 rfl ?_
            refine Zp.aald 2 k_125_16 m_58 (by decide) rfl (by decide) (zlt rfl) r_58_2 ?_
            refine Zp.callv0I v_42 k_125_17 m_89 (Nat.le_of_ble_eq_true rfl) (Nat.le_of_ble_eq_true rfl) (c_isNothingN m_89 h0.1 (by omega) ⟨_, rfl, ?_⟩)
            refine Zp.if_eqB k_125_20 (fun c_20 => ?_) (fun c_20 => (by first | exact absurd c_20 id | exact absurd id c_20))
            refine Zp.aload_n k_125_26 rfl ?_
            refine Zp.getR k_125_27 rfl (zlt rfl) m_0 r_0_8 ?_
            refine Zp.iload_n k_125_30 rfl ?_
            refine Zp.aald 2 k_125_31 m_58 (by decide) rfl (by decide) (zlt rfl) r_58_2 ?_
            refine Zp.iload_n k_125_32 rfl ?_
            refine Zp.callv1I v_43 k_125_33 m_89 (Nat.le_of_ble_eq_true rfl) (Nat.le_of_ble_eq_true rfl) (c_has6 m_89 h0.1 (by omega) ⟨_, rfl, ?_⟩)
            refine Zp.if_neB k_125_36 (fun c_36 => ?_) (fun c_36 => absurd c_36 (by omega))
            refine Zp.aload_n k_125_42 rfl ?_
            refine Zp.getR k_125_43 rfl (zlt rfl) m_0 r_0_8 ?_
            refine Zp.iload_n k_125_46 rfl ?_
            refine Zp.aald 2 k_125_47 m_58 (by decide) rfl (by decide) (zlt rfl) r_58_2 ?_
            refine Zp.iload_n k_125_48 rfl ?_
            refine Zp.iload_n k_125_49 rfl ?_
            refine Zp.callv2V v_45 k_125_50 m_89 (Nat.le_of_ble_eq_true rfl) (Nat.le_of_ble_eq_true rfl) (c_layDown m_89 r_89_1 m_90 h0.2.1 (by omega) (by omega) ⟨rfl, ?_⟩)
            refine Zp.iconst (nI 1) k_125_53 (by decide) ?_
            refine Zp.iret _ k_125_54 vr_125 rfl ?_
            refine hq _ (pc.sheet ⟨fun h => absurd h w, fun _ => ⟨by rw [zpu_q _ _ _ (by omega)]; exact h0.1, by rw [zpu_q _ _ _ (by omega)]; exact h0.2.1, fun j hj => ?_⟩⟩ (fun q h1 h2 => zpu_q _ _ _ (by omega)) (by decide)) (fun q h => zpu_q _ _ _ (by omega))
            show zpu I 90 i _ 90 j = if j = i then _ else (aH A 2).2.2 j
            by_cases e : j = i
            · subst e; rw [zpu_s, if_pos rfl]
            · rw [zpu_k _ _ _ e, if_neg e]; exact h0.2.2 j hj
          · obtain ⟨m3, ⟨mp, xp⟩, m4, ms1, ms2, ms3, mk0, mk1, mi0, mi1, mt, mb, mf, mr, mh⟩ := id pm
            have h0 := (mh 2 (by decide)).2 w
            refine Zm.go [some (.ref _), some (.int _), some (.int _), some (.int _)] vl_225 rfl ?_
            refine Zp.iload_n k_225_0 rfl ?_
            refine Zp.iconst (nI 0) k_225_1 (by decide) ?_
            refine Zp.calls2I vs_223 k_225_2 (Nat.le_of_ble_eq_true rfl) (Nat.le_of_ble_eq_true rfl) (c_isSheetM (nI_toInt (by omega)) (nI_toInt (by omega)) ⟨_, rfl, ?_⟩)
            refine Zp.if_neB k_225_5 (fun c_5 => ?_) (fun c_5 => absurd c_5 (by omega))
            refine Zp.aload_n k_225_10 rfl ?_
            refine Zp.getR k_225_11 rfl (zlt rfl) m_93 r_93_31 ?_
            refine Zp.iload_n k_225_14 rfl ?_
            refine Zp.iald _ k_225_15 m_107 rfl (by omega) (zlt rfl) h0.1 ?_
            refine Zp.bipush (-4) k_225_16 (by decide) ?_
            refine Zp.icmp_neZ _ (-4) k_225_18 (nI_toInt (by omega)) (by decide) (fun c_18 => ?_) (fun c_18 => absurd c_18 (by omega))
            refine Zp.iload_n k_225_24 rfl ?_
            refine Zp.i2l k_225_25 ?_
            refine Zp.lconst (lN 0) k_225_26 (by decide) ?_
            refine Zp.aload_n k_225_27 rfl ?_
            refine Zp.getR k_225_28 rfl (zlt rfl) m_93 r_93_32 ?_
            refine Zp.iload_n k_225_31 rfl ?_
            refine Zp.iald _ k_225_32 m_108 rfl (by omega) (zlt rfl) h0.2.1 ?_
            refine Zp.iconst (nI 1) k_225_33 (by decide) ?_
            refine Zp.isub k_225_34 ?_
            refine Zp.i2l k_225_35 ?_
            refine Zp.calls3I vs_131 k_225_36 (Nat.le_of_ble_eq_true rfl) (Nat.le_of_ble_eq_true rfl) (c_in (zi2n (by omega)) (lN_z (by decide)) (zm1 (by omega)) ⟨_, rfl, ?_⟩)
            refine Zp.if_neB k_225_39 (fun c_39 => ?_) (fun c_39 => absurd c_39 (by omega))
            refine Zp.aload_n k_225_45 rfl ?_
            refine Zp.getR k_225_46 rfl (zlt rfl) m_93 r_93_33 ?_
            refine Zp.bipush (nI 40) k_225_49 (by decide) ?_
            refine Zp.iload_n k_225_51 rfl ?_
            refine Zp.imulN k_225_52 ?_
            refine Zp.iload_n k_225_53 rfl ?_
            refine Zp.iaddN k_225_54 ?_
            refine Zp.aload_n k_225_55 rfl ?_
            refine Zp.getR k_225_56 rfl (zlt rfl) m_93 r_93_31 ?_
            refine Zp.iload_n k_225_59 rfl ?_
            refine Zp.iald _ k_225_60 m_107 rfl (by omega) (zlt rfl) h0.1 ?_
            refine Zp.if_neN k_225_61 (by omega) (fun c_61 => ?_) (fun c_61 => ?_)
            · refine Zp.aload_n k_225_69 rfl ?_
              refine Zp.getR k_225_70 rfl (zlt rfl) m_93 r_93_31 ?_
              refine Zp.iload_n k_225_73 rfl ?_
              refine Zp.iald _ k_225_74 m_107 rfl (by omega) (zlt rfl) h0.1 ?_
              refine Zp.iconst (nI 1) k_225_75 (by decide) ?_
              refine Zp.icmp_neN k_225_76 (by omega) (by omega) (fun c_76 => ?_) (fun c_76 => ?_)
              · refine Zp.iload_n k_225_84 rfl ?_
                refine Zp.iast _ k_225_85 m_109 rfl (by omega) (zlt rfl) ?_
                refine Zp.iconst (nI 1) k_225_86 (by decide) ?_
                refine Zp.iret _ k_225_87 vr_225 rfl ?_
                refine hq _ _ (pm.sheet ho ⟨fun h => absurd h w, fun _ => ⟨by rw [zpu_q _ _ _ (by decide)]; exact h0.1, by rw [zpu_q _ _ _ (by decide)]; exact h0.2.1, fun j hj => ?_⟩⟩ (fun q h1 h2 h3 => zpu_q _ _ _ h3) (fun j h => by rw [zpu_q _ _ _ (by decide)]) (fun j h => by rw [zpu_q _ _ _ (by decide)]) (fun j h => zpu_k _ _ _ (by omega))) (fun q h => zpu_q _ _ _ (by omega))
                show zpu I 109 (40 * 2 + i) _ 109 (40 * 2 + j) = if j = i then _ else (aH A 2).2.2 j
                by_cases e : j = i
                · subst e; rw [zpu_s, if_pos rfl]; unfold lvV; first | rw [if_pos (by omega)] | rw [if_neg (by omega), if_pos (by omega)] | rw [if_neg (by omega), if_neg (by omega)]
                · rw [zpu_k _ _ _ (by omega), if_neg e]; exact h0.2.2 j hj
              · refine Zp.iload_n k_225_79 rfl ?_
                refine Zp.i2s k_225_80 ?_
                refine Zp.goto k_225_81 ?_
                refine Zp.iast _ k_225_85 m_109 rfl (by omega) (zlt rfl) ?_
                refine Zp.iconst (nI 1) k_225_86 (by decide) ?_
                refine Zp.iret _ k_225_87 vr_225 rfl ?_
                refine hq _ _ (pm.sheet ho ⟨fun h => absurd h w, fun _ => ⟨by rw [zpu_q _ _ _ (by decide)]; exact h0.1, by rw [zpu_q _ _ _ (by decide)]; exact h0.2.1, fun j hj => ?_⟩⟩ (fun q h1 h2 h3 => zpu_q _ _ _ h3) (fun j h => by rw [zpu_q _ _ _ (by decide)]) (fun j h => by rw [zpu_q _ _ _ (by decide)]) (fun j h => zpu_k _ _ _ (by omega))) (fun q h => zpu_q _ _ _ (by omega))
                show zpu I 109 (40 * 2 + i) _ 109 (40 * 2 + j) = if j = i then _ else (aH A 2).2.2 j
                by_cases e : j = i
                · subst e; rw [zpu_s, if_pos rfl]; unfold lvV; first | rw [if_pos (by omega)] | rw [if_neg (by omega), if_pos (by omega)] | rw [if_neg (by omega), if_neg (by omega)]
                · rw [zpu_k _ _ _ (by omega), if_neg e]; exact h0.2.2 j hj
            · refine Zp.iload_n k_225_64 rfl ?_
              refine Zp.i2b k_225_65 ?_
              refine Zp.goto k_225_66 ?_
              refine Zp.iast _ k_225_85 m_109 rfl (by omega) (zlt rfl) ?_
              refine Zp.iconst (nI 1) k_225_86 (by decide) ?_
              refine Zp.iret _ k_225_87 vr_225 rfl ?_
              refine hq _ _ (pm.sheet ho ⟨fun h => absurd h w, fun _ => ⟨by rw [zpu_q _ _ _ (by decide)]; exact h0.1, by rw [zpu_q _ _ _ (by decide)]; exact h0.2.1, fun j hj => ?_⟩⟩ (fun q h1 h2 h3 => zpu_q _ _ _ h3) (fun j h => by rw [zpu_q _ _ _ (by decide)]) (fun j h => by rw [zpu_q _ _ _ (by decide)]) (fun j h => zpu_k _ _ _ (by omega))) (fun q h => zpu_q _ _ _ (by omega))
              show zpu I 109 (40 * 2 + i) _ 109 (40 * 2 + j) = if j = i then _ else (aH A 2).2.2 j
              by_cases e : j = i
              · subst e; rw [zpu_s, if_pos rfl]; unfold lvV; first | rw [if_pos (by omega)] | rw [if_neg (by omega), if_pos (by omega)] | rw [if_neg (by omega), if_neg (by omega)]
              · rw [zpu_k _ _ _ (by omega), if_neg e]; exact h0.2.2 j hj
        · refine ⟨.int (-12), A, ho, fun I L Q pc hq => ?_, fun I L Q pm hq => ?_⟩
          · obtain ⟨⟨hp, lp, pp, ep⟩, hk, hi0, hi1, ht, hb, hf, hr, hh⟩ := id pc
            have h0 := (hh 2 (by decide)).2 w
            refine Zm.go [some (.ref _), some (.int _), some (.int _), some (.int _)] vl_125 rfl ?_
            refine Zp.iload_n k_125_0 rfl ?_
            refine Zp.iconst (nI 0) k_125_1 (by decide) ?_
            refine Zp.iconst (nI 3) k_125_2 (by decide) ?_
            refine Zp.calls3I vs_129 k_125_3 (Nat.le_of_ble_eq_true rfl) (Nat.le_of_ble_eq_true rfl) (c_isWithin (nI_toInt (by omega)) (nI_toInt (by omega)) (nI_toInt (by omega)) ⟨_, rfl, ?_⟩)
            refine Zp.if_neB k_125_6 (fun c_6 => ?_) (fun c_6 => absurd c_6 (by omega))
            refine Zp.aload_n k_125_11 rfl ?_
            refine Zp.getR k_125_12 rfl (zlt rfl) m_0 r_0_8 ?_
            refine Zp.iload_n k_125_15 rfl ?_
            refine Zp.aald 2 k_125_16 m_58 (by decide) rfl (by decide) (zlt rfl) r_58_2 ?_
            refine Zp.callv0I v_42 k_125_17 m_89 (Nat.le_of_ble_eq_true rfl) (Nat.le_of_ble_eq_true rfl) (c_isNothingN m_89 h0.1 (by omega) ⟨_, rfl, ?_⟩)
            refine Zp.if_eqB k_125_20 (fun c_20 => ?_) (fun c_20 => (by first | exact absurd c_20 id | exact absurd id c_20))
            refine Zp.aload_n k_125_26 rfl ?_
            refine Zp.getR k_125_27 rfl (zlt rfl) m_0 r_0_8 ?_
            refine Zp.iload_n k_125_30 rfl ?_
            refine Zp.aald 2 k_125_31 m_58 (by decide) rfl (by decide) (zlt rfl) r_58_2 ?_
            refine Zp.iload_n k_125_32 rfl ?_
            refine Zp.callv1I v_43 k_125_33 m_89 (Nat.le_of_ble_eq_true rfl) (Nat.le_of_ble_eq_true rfl) (c_has6 m_89 h0.1 (by omega) ⟨_, rfl, ?_⟩)
            refine Zp.if_neB k_125_36 (fun c_36 => absurd c_36 (by omega)) (fun c_36 => ?_)
            refine Zp.bipush (-12) k_125_39 (by decide) ?_
            refine Zp.iret _ k_125_41 vr_125 rfl ?_
            exact hq I pc (FrC.rf I)
          · obtain ⟨m3, ⟨mp, xp⟩, m4, ms1, ms2, ms3, mk0, mk1, mi0, mi1, mt, mb, mf, mr, mh⟩ := id pm
            have h0 := (mh 2 (by decide)).2 w
            refine Zm.go [some (.ref _), some (.int _), some (.int _), some (.int _)] vl_225 rfl ?_
            refine Zp.iload_n k_225_0 rfl ?_
            refine Zp.iconst (nI 0) k_225_1 (by decide) ?_
            refine Zp.calls2I vs_223 k_225_2 (Nat.le_of_ble_eq_true rfl) (Nat.le_of_ble_eq_true rfl) (c_isSheetM (nI_toInt (by omega)) (nI_toInt (by omega)) ⟨_, rfl, ?_⟩)
            refine Zp.if_neB k_225_5 (fun c_5 => ?_) (fun c_5 => absurd c_5 (by omega))
            refine Zp.aload_n k_225_10 rfl ?_
            refine Zp.getR k_225_11 rfl (zlt rfl) m_93 r_93_31 ?_
            refine Zp.iload_n k_225_14 rfl ?_
            refine Zp.iald _ k_225_15 m_107 rfl (by omega) (zlt rfl) h0.1 ?_
            refine Zp.bipush (-4) k_225_16 (by decide) ?_
            refine Zp.icmp_neZ _ (-4) k_225_18 (nI_toInt (by omega)) (by decide) (fun c_18 => ?_) (fun c_18 => absurd c_18 (by omega))
            refine Zp.iload_n k_225_24 rfl ?_
            refine Zp.i2l k_225_25 ?_
            refine Zp.lconst (lN 0) k_225_26 (by decide) ?_
            refine Zp.aload_n k_225_27 rfl ?_
            refine Zp.getR k_225_28 rfl (zlt rfl) m_93 r_93_32 ?_
            refine Zp.iload_n k_225_31 rfl ?_
            refine Zp.iald _ k_225_32 m_108 rfl (by omega) (zlt rfl) h0.2.1 ?_
            refine Zp.iconst (nI 1) k_225_33 (by decide) ?_
            refine Zp.isub k_225_34 ?_
            refine Zp.i2l k_225_35 ?_
            refine Zp.calls3I vs_131 k_225_36 (Nat.le_of_ble_eq_true rfl) (Nat.le_of_ble_eq_true rfl) (c_in (zi2l _) (lN_z (by decide)) (zm1 (by omega)) ⟨_, rfl, ?_⟩)
            refine Zp.if_neB k_225_39 (fun c_39 => absurd c_39 (by omega)) (fun c_39 => ?_)
            refine Zp.bipush (-12) k_225_42 (by decide) ?_
            refine Zp.iret _ k_225_44 vr_225 rfl ?_
            first | exact hq I L pm (FrM.rf I) | exact hq I2 L pm2 (fun q hq => s2 q (by omega))
    · by_cases w : (aH A 3).1 = 0
      · refine ⟨.int (-11), A, ho, fun I L Q pc hq => ?_, fun I L Q pm hq => ?_⟩
        · obtain ⟨⟨hp, lp, pp, ep⟩, hk, hi0, hi1, ht, hb, hf, hr, hh⟩ := id pc
          have h0 := hh 3 (by decide)
          refine Zm.go [some (.ref _), some (.int _), some (.int _), some (.int _)] vl_125 rfl ?_
          refine Zp.iload_n k_125_0 rfl ?_
          refine Zp.iconst (nI 0) k_125_1 (by decide) ?_
          refine Zp.iconst (nI 3) k_125_2 (by decide) ?_
          refine Zp.calls3I vs_129 k_125_3 (Nat.le_of_ble_eq_true rfl) (Nat.le_of_ble_eq_true rfl) (c_isWithin (nI_toInt (by omega)) (nI_toInt (by omega)) (nI_toInt (by omega)) ⟨_, rfl, ?_⟩)
          refine Zp.if_neB k_125_6 (fun c_6 => ?_) (fun c_6 => absurd c_6 (by omega))
          refine Zp.aload_n k_125_11 rfl ?_
          refine Zp.getR k_125_12 rfl (zlt rfl) m_0 r_0_8 ?_
          refine Zp.iload_n k_125_15 rfl ?_
          refine Zp.aald 3 k_125_16 m_58 (by decide) rfl (by decide) (zlt rfl) r_58_3 ?_
          refine Zp.callv0I v_42 k_125_17 m_91 (Nat.le_of_ble_eq_true rfl) (Nat.le_of_ble_eq_true rfl) (c_isNothing m_91 (h0.1 w) ⟨_, rfl, ?_⟩)
          refine Zp.if_eqB k_125_20 (fun c_20 => (by first | exact absurd c_20 trivial | exact absurd trivial c_20)) (fun c_20 => ?_)
          refine Zp.bipush (-11) k_125_23 (by decide) ?_
          refine Zp.iret _ k_125_25 vr_125 rfl ?_
          exact hq I pc (FrC.rf I)
        · obtain ⟨m3, ⟨mp, xp⟩, m4, ms1, ms2, ms3, mk0, mk1, mi0, mi1, mt, mb, mf, mr, mh⟩ := id pm
          have h0 := mh 3 (by decide)
          refine Zm.go [some (.ref _), some (.int _), some (.int _), some (.int _)] vl_225 rfl ?_
          refine Zp.iload_n k_225_0 rfl ?_
          refine Zp.iconst (nI 0) k_225_1 (by decide) ?_
          refine Zp.calls2I vs_223 k_225_2 (Nat.le_of_ble_eq_true rfl) (Nat.le_of_ble_eq_true rfl) (c_isSheetM (nI_toInt (by omega)) (nI_toInt (by omega)) ⟨_, rfl, ?_⟩)
          refine Zp.if_neB k_225_5 (fun c_5 => ?_) (fun c_5 => absurd c_5 (by omega))
          refine Zp.aload_n k_225_10 rfl ?_
          refine Zp.getR k_225_11 rfl (zlt rfl) m_93 r_93_31 ?_
          refine Zp.iload_n k_225_14 rfl ?_
          refine Zp.iald _ k_225_15 m_107 rfl (by omega) (zlt rfl) (h0.1 w) ?_
          refine Zp.bipush (-4) k_225_16 (by decide) ?_
          refine Zp.icmp_neZ (-4) (-4) k_225_18 (by decide) (by decide) (fun c_18 => absurd c_18 (by omega)) (fun c_18 => ?_)
          refine Zp.bipush (-11) k_225_21 (by decide) ?_
          refine Zp.iret _ k_225_23 vr_225 rfl ?_
          first | exact hq I L pm (FrM.rf I) | exact hq I2 L pm2 (fun q hq => s2 q (by omega))
      · by_cases u : 0 ≤ y.toInt ∧ y.toInt < ((aH A 3).2.1 : Int)
        · obtain ⟨i, hi, rfl, ei⟩ := zin_nI u.1 u.2
          refine ⟨.int (nI 1), wH A 3 ((aH A 3).1, (aH A 3).2.1, hUp (aH A 3).2.2 i (lvV ((aH A 3).1 - 1) z)), ho.sheet oh1.1 oh1.2, fun I L Q pc hq => ?_, fun I L Q pm hq => ?_⟩
          · obtain ⟨⟨hp, lp, pp, ep⟩, hk, hi0, hi1, ht, hb, hf, hr, hh⟩ := id pc
            have h0 := (hh 3 (by decide)).2 w
            refine Zm.go [some (.ref _), some (.int _), some (.int _), some (.int _)] vl_125 rfl ?_
            refine Zp.iload_n k_125_0 rfl ?_
            refine Zp.iconst (nI 0) k_125_1 (by decide) ?_
            refine Zp.iconst (nI 3) k_125_2 (by decide) ?_
            refine Zp.calls3I vs_129 k_125_3 (Nat.le_of_ble_eq_true rfl) (Nat.le_of_ble_eq_true rfl) (c_isWithin (nI_toInt (by omega)) (nI_toInt (by omega)) (nI_toInt (by omega)) ⟨_, rfl, ?_⟩)
            refine Zp.if_neB k_125_6 (fun c_6 => ?_) (fun c_6 => absurd c_6 (by omega))
            refine Zp.aload_n k_125_11 rfl ?_
            refine Zp.getR k_125_12 rfl (zlt rfl) m_0 r_0_8 ?_
            refine Zp.iload_n k_125_15 rfl ?_
            refine Zp.aald 3 k_125_16 m_58 (by decide) rfl (by decide) (zlt rfl) r_58_3 ?_
            refine Zp.callv0I v_42 k_125_17 m_91 (Nat.le_of_ble_eq_true rfl) (Nat.le_of_ble_eq_true rfl) (c_isNothingN m_91 h0.1 (by omega) ⟨_, rfl, ?_⟩)
            refine Zp.if_eqB k_125_20 (fun c_20 => ?_) (fun c_20 => (by first | exact absurd c_20 id | exact absurd id c_20))
            refine Zp.aload_n k_125_26 rfl ?_
            refine Zp.getR k_125_27 rfl (zlt rfl) m_0 r_0_8 ?_
            refine Zp.iload_n k_125_30 rfl ?_
            refine Zp.aald 3 k_125_31 m_58 (by decide) rfl (by decide) (zlt rfl) r_58_3 ?_
            refine Zp.iload_n k_125_32 rfl ?_
            refine Zp.callv1I v_43 k_125_33 m_91 (Nat.le_of_ble_eq_true rfl) (Nat.le_of_ble_eq_true rfl) (c_has6 m_91 h0.1 (by omega) ⟨_, rfl, ?_⟩)
            refine Zp.if_neB k_125_36 (fun c_36 => ?_) (fun c_36 => absurd c_36 (by omega))
            refine Zp.aload_n k_125_42 rfl ?_
            refine Zp.getR k_125_43 rfl (zlt rfl) m_0 r_0_8 ?_
            refine Zp.iload_n k_125_46 rfl ?_
            refine Zp.aald 3 k_125_47 m_58 (by decide) rfl (by decide) (zlt rfl) r_58_3 ?_
            refine Zp.iload_n k_125_48 rfl ?_
            refine Zp.iload_n k_125_49 rfl ?_
            refine Zp.callv2V v_45 k_125_50 m_91 (Nat.le_of_ble_eq_true rfl) (Nat.le_of_ble_eq_true rfl) (c_layDown m_91 r_91_1 m_92 h0.2.1 (by omega) (by omega) ⟨rfl, ?_⟩)
            refine Zp.iconst (nI 1) k_125_53 (by decide) ?_
            refine Zp.iret _ k_125_54 vr_125 rfl ?_
            refine hq _ (pc.sheet ⟨fun h => absurd h w, fun _ => ⟨by rw [zpu_q _ _ _ (by omega)]; exact h0.1, by rw [zpu_q _ _ _ (by omega)]; exact h0.2.1, fun j hj => ?_⟩⟩ (fun q h1 h2 => zpu_q _ _ _ (by omega)) (by decide)) (fun q h => zpu_q _ _ _ (by omega))
            show zpu I 92 i _ 92 j = if j = i then _ else (aH A 3).2.2 j
            by_cases e : j = i
            · subst e; rw [zpu_s, if_pos rfl]
            · rw [zpu_k _ _ _ e, if_neg e]; exact h0.2.2 j hj
          · obtain ⟨m3, ⟨mp, xp⟩, m4, ms1, ms2, ms3, mk0, mk1, mi0, mi1, mt, mb, mf, mr, mh⟩ := id pm
            have h0 := (mh 3 (by decide)).2 w
            refine Zm.go [some (.ref _), some (.int _), some (.int _), some (.int _)] vl_225 rfl ?_
            refine Zp.iload_n k_225_0 rfl ?_
            refine Zp.iconst (nI 0) k_225_1 (by decide) ?_
            refine Zp.calls2I vs_223 k_225_2 (Nat.le_of_ble_eq_true rfl) (Nat.le_of_ble_eq_true rfl) (c_isSheetM (nI_toInt (by omega)) (nI_toInt (by omega)) ⟨_, rfl, ?_⟩)
            refine Zp.if_neB k_225_5 (fun c_5 => ?_) (fun c_5 => absurd c_5 (by omega))
            refine Zp.aload_n k_225_10 rfl ?_
            refine Zp.getR k_225_11 rfl (zlt rfl) m_93 r_93_31 ?_
            refine Zp.iload_n k_225_14 rfl ?_
            refine Zp.iald _ k_225_15 m_107 rfl (by omega) (zlt rfl) h0.1 ?_
            refine Zp.bipush (-4) k_225_16 (by decide) ?_
            refine Zp.icmp_neZ _ (-4) k_225_18 (nI_toInt (by omega)) (by decide) (fun c_18 => ?_) (fun c_18 => absurd c_18 (by omega))
            refine Zp.iload_n k_225_24 rfl ?_
            refine Zp.i2l k_225_25 ?_
            refine Zp.lconst (lN 0) k_225_26 (by decide) ?_
            refine Zp.aload_n k_225_27 rfl ?_
            refine Zp.getR k_225_28 rfl (zlt rfl) m_93 r_93_32 ?_
            refine Zp.iload_n k_225_31 rfl ?_
            refine Zp.iald _ k_225_32 m_108 rfl (by omega) (zlt rfl) h0.2.1 ?_
            refine Zp.iconst (nI 1) k_225_33 (by decide) ?_
            refine Zp.isub k_225_34 ?_
            refine Zp.i2l k_225_35 ?_
            refine Zp.calls3I vs_131 k_225_36 (Nat.le_of_ble_eq_true rfl) (Nat.le_of_ble_eq_true rfl) (c_in (zi2n (by omega)) (lN_z (by decide)) (zm1 (by omega)) ⟨_, rfl, ?_⟩)
            refine Zp.if_neB k_225_39 (fun c_39 => ?_) (fun c_39 => absurd c_39 (by omega))
            refine Zp.aload_n k_225_45 rfl ?_
            refine Zp.getR k_225_46 rfl (zlt rfl) m_93 r_93_33 ?_
            refine Zp.bipush (nI 40) k_225_49 (by decide) ?_
            refine Zp.iload_n k_225_51 rfl ?_
            refine Zp.imulN k_225_52 ?_
            refine Zp.iload_n k_225_53 rfl ?_
            refine Zp.iaddN k_225_54 ?_
            refine Zp.aload_n k_225_55 rfl ?_
            refine Zp.getR k_225_56 rfl (zlt rfl) m_93 r_93_31 ?_
            refine Zp.iload_n k_225_59 rfl ?_
            refine Zp.iald _ k_225_60 m_107 rfl (by omega) (zlt rfl) h0.1 ?_
            refine Zp.if_neN k_225_61 (by omega) (fun c_61 => ?_) (fun c_61 => ?_)
            · refine Zp.aload_n k_225_69 rfl ?_
              refine Zp.getR k_225_70 rfl (zlt rfl) m_93 r_93_31 ?_
              refine Zp.iload_n k_225_73 rfl ?_
              refine Zp.iald _ k_225_74 m_107 rfl (by omega) (zlt rfl) h0.1 ?_
              refine Zp.iconst (nI 1) k_225_75 (by decide) ?_
              refine Zp.icmp_neN k_225_76 (by omega) (by omega) (fun c_76 => ?_) (fun c_76 => ?_)
              · refine Zp.iload_n k_225_84 rfl ?_
                refine Zp.iast _ k_225_85 m_109 rfl (by omega) (zlt rfl) ?_
                refine Zp.iconst (nI 1) k_225_86 (by decide) ?_
                refine Zp.iret _ k_225_87 vr_225 rfl ?_
                refine hq _ _ (pm.sheet ho ⟨fun h => absurd h w, fun _ => ⟨by rw [zpu_q _ _ _ (by decide)]; exact h0.1, by rw [zpu_q _ _ _ (by decide)]; exact h0.2.1, fun j hj => ?_⟩⟩ (fun q h1 h2 h3 => zpu_q _ _ _ h3) (fun j h => by rw [zpu_q _ _ _ (by decide)]) (fun j h => by rw [zpu_q _ _ _ (by decide)]) (fun j h => zpu_k _ _ _ (by omega))) (fun q h => zpu_q _ _ _ (by omega))
                show zpu I 109 (40 * 3 + i) _ 109 (40 * 3 + j) = if j = i then _ else (aH A 3).2.2 j
                by_cases e : j = i
                · subst e; rw [zpu_s, if_pos rfl]; unfold lvV; first | rw [if_pos (by omega)] | rw [if_neg (by omega), if_pos (by omega)] | rw [if_neg (by omega), if_neg (by omega)]
                · rw [zpu_k _ _ _ (by omega), if_neg e]; exact h0.2.2 j hj
              · refine Zp.iload_n k_225_79 rfl ?_
                refine Zp.i2s k_225_80 ?_
                refine Zp.goto k_225_81 ?_
                refine Zp.iast _ k_225_85 m_109 rfl (by omega) (zlt rfl) ?_
                refine Zp.iconst (nI 1) k_225_86 (by decide) ?_
                refine Zp.iret _ k_225_87 vr_225 rfl ?_
                refine hq _ _ (pm.sheet ho ⟨fun h => absurd h w, fun _ => ⟨by rw [zpu_q _ _ _ (by decide)]; exact h0.1, by rw [zpu_q _ _ _ (by decide)]; exact h0.2.1, fun j hj => ?_⟩⟩ (fun q h1 h2 h3 => zpu_q _ _ _ h3) (fun j h => by rw [zpu_q _ _ _ (by decide)]) (fun j h => by rw [zpu_q _ _ _ (by decide)]) (fun j h => zpu_k _ _ _ (by omega))) (fun q h => zpu_q _ _ _ (by omega))
                show zpu I 109 (40 * 3 + i) _ 109 (40 * 3 + j) = if j = i then _ else (aH A 3).2.2 j
                by_cases e : j = i
                · subst e; rw [zpu_s, if_pos rfl]; unfold lvV; first | rw [if_pos (by omega)] | rw [if_neg (by omega), if_pos (by omega)] | rw [if_neg (by omega), if_neg (by omega)]
                · rw [zpu_k _ _ _ (by omega), if_neg e]; exact h0.2.2 j hj
            · refine Zp.iload_n k_225_64 rfl ?_
              refine Zp.i2b k_225_65 ?_
              refine Zp.goto k_225_66 ?_
              refine Zp.iast _ k_225_85 m_109 rfl (by omega) (zlt rfl) ?_
              refine Zp.iconst (nI 1) k_225_86 (by decide) ?_
              refine Zp.iret _ k_225_87 vr_225 rfl ?_
              refine hq _ _ (pm.sheet ho ⟨fun h => absurd h w, fun _ => ⟨by rw [zpu_q _ _ _ (by decide)]; exact h0.1, by rw [zpu_q _ _ _ (by decide)]; exact h0.2.1, fun j hj => ?_⟩⟩ (fun q h1 h2 h3 => zpu_q _ _ _ h3) (fun j h => by rw [zpu_q _ _ _ (by decide)]) (fun j h => by rw [zpu_q _ _ _ (by decide)]) (fun j h => zpu_k _ _ _ (by omega))) (fun q h => zpu_q _ _ _ (by omega))
              show zpu I 109 (40 * 3 + i) _ 109 (40 * 3 + j) = if j = i then _ else (aH A 3).2.2 j
              by_cases e : j = i
              · subst e; rw [zpu_s, if_pos rfl]; unfold lvV; first | rw [if_pos (by omega)] | rw [if_neg (by omega), if_pos (by omega)] | rw [if_neg (by omega), if_neg (by omega)]
              · rw [zpu_k _ _ _ (by omega), if_neg e]; exact h0.2.2 j hj
        · refine ⟨.int (-12), A, ho, fun I L Q pc hq => ?_, fun I L Q pm hq => ?_⟩
          · obtain ⟨⟨hp, lp, pp, ep⟩, hk, hi0, hi1, ht, hb, hf, hr, hh⟩ := id pc
            have h0 := (hh 3 (by decide)).2 w
            refine Zm.go [some (.ref _), some (.int _), some (.int _), some (.int _)] vl_125 rfl ?_
            refine Zp.iload_n k_125_0 rfl ?_
            refine Zp.iconst (nI 0) k_125_1 (by decide) ?_
            refine Zp.iconst (nI 3) k_125_2 (by decide) ?_
            refine Zp.calls3I vs_129 k_125_3 (Nat.le_of_ble_eq_true rfl) (Nat.le_of_ble_eq_true rfl) (c_isWithin (nI_toInt (by omega)) (nI_toInt (by omega)) (nI_toInt (by omega)) ⟨_, rfl, ?_⟩)
            refine Zp.if_neB k_125_6 (fun c_6 => ?_) (fun c_6 => absurd c_6 (by omega))
            refine Zp.aload_n k_125_11 rfl ?_
            refine Zp.getR k_125_12 rfl (zlt rfl) m_0 r_0_8 ?_
            refine Zp.iload_n k_125_15 rfl ?_
            refine Zp.aald 3 k_125_16 m_58 (by decide) rfl (by decide) (zlt rfl) r_58_3 ?_
            refine Zp.callv0I v_42 k_125_17 m_91 (Nat.le_of_ble_eq_true rfl) (Nat.le_of_ble_eq_true rfl) (c_isNothingN m_91 h0.1 (by omega) ⟨_, rfl, ?_⟩)
            refine Zp.if_eqB k_125_20 (fun c_20 => ?_) (fun c_20 => (by first | exact absurd c_20 id | exact absurd id c_20))
            refine Zp.aload_n k_125_26 rfl ?_
            refine Zp.getR k_125_27 rfl (zlt rfl) m_0 r_0_8 ?_
            refine Zp.iload_n k_125_30 rfl ?_
            refine Zp.aald 3 k_125_31 m_58 (by decide) rfl (by decide) (zlt rfl) r_58_3 ?_
            refine Zp.iload_n k_125_32 rfl ?_
            refine Zp.callv1I v_43 k_125_33 m_91 (Nat.le_of_ble_eq_true rfl) (Nat.le_of_ble_eq_true rfl) (c_has6 m_91 h0.1 (by omega) ⟨_, rfl, ?_⟩)
            refine Zp.if_neB k_125_36 (fun c_36 => absurd c_36 (by omega)) (fun c_36 => ?_)
            refine Zp.bipush (-12) k_125_39 (by decide) ?_
            refine Zp.iret _ k_125_41 vr_125 rfl ?_
            exact hq I pc (FrC.rf I)
          · obtain ⟨m3, ⟨mp, xp⟩, m4, ms1, ms2, ms3, mk0, mk1, mi0, mi1, mt, mb, mf, mr, mh⟩ := id pm
            have h0 := (mh 3 (by decide)).2 w
            refine Zm.go [some (.ref _), some (.int _), some (.int _), some (.int _)] vl_225 rfl ?_
            refine Zp.iload_n k_225_0 rfl ?_
            refine Zp.iconst (nI 0) k_225_1 (by decide) ?_
            refine Zp.calls2I vs_223 k_225_2 (Nat.le_of_ble_eq_true rfl) (Nat.le_of_ble_eq_true rfl) (c_isSheetM (nI_toInt (by omega)) (nI_toInt (by omega)) ⟨_, rfl, ?_⟩)
            refine Zp.if_neB k_225_5 (fun c_5 => ?_) (fun c_5 => absurd c_5 (by omega))
            refine Zp.aload_n k_225_10 rfl ?_
            refine Zp.getR k_225_11 rfl (zlt rfl) m_93 r_93_31 ?_
            refine Zp.iload_n k_225_14 rfl ?_
            refine Zp.iald _ k_225_15 m_107 rfl (by omega) (zlt rfl) h0.1 ?_
            refine Zp.bipush (-4) k_225_16 (by decide) ?_
            refine Zp.icmp_neZ _ (-4) k_225_18 (nI_toInt (by omega)) (by decide) (fun c_18 => ?_) (fun c_18 => absurd c_18 (by omega))
            refine Zp.iload_n k_225_24 rfl ?_
            refine Zp.i2l k_225_25 ?_
            refine Zp.lconst (lN 0) k_225_26 (by decide) ?_
            refine Zp.aload_n k_225_27 rfl ?_
            refine Zp.getR k_225_28 rfl (zlt rfl) m_93 r_93_32 ?_
            refine Zp.iload_n k_225_31 rfl ?_
            refine Zp.iald _ k_225_32 m_108 rfl (by omega) (zlt rfl) h0.2.1 ?_
            refine Zp.iconst (nI 1) k_225_33 (by decide) ?_
            refine Zp.isub k_225_34 ?_
            refine Zp.i2l k_225_35 ?_
            refine Zp.calls3I vs_131 k_225_36 (Nat.le_of_ble_eq_true rfl) (Nat.le_of_ble_eq_true rfl) (c_in (zi2l _) (lN_z (by decide)) (zm1 (by omega)) ⟨_, rfl, ?_⟩)
            refine Zp.if_neB k_225_39 (fun c_39 => absurd c_39 (by omega)) (fun c_39 => ?_)
            refine Zp.bipush (-12) k_225_42 (by decide) ?_
            refine Zp.iret _ k_225_44 vr_225 rfl ?_
            first | exact hq I L pm (FrM.rf I) | exact hq I2 L pm2 (fun q hq => s2 q (by omega))
  · refine ⟨.int (-1), A, ho, fun I L Q pc hq => ?_, fun I L Q pm hq => ?_⟩
    · obtain ⟨⟨hp, lp, pp, ep⟩, hk, hi0, hi1, ht, hb, hf, hr, hh⟩ := id pc
      refine Zm.go [some (.ref _), some (.int _), some (.int _), some (.int _)] vl_125 rfl ?_
      refine Zp.iload_n k_125_0 rfl ?_
      refine Zp.iconst (nI 0) k_125_1 (by decide) ?_
      refine Zp.iconst (nI 3) k_125_2 (by decide) ?_
      refine Zp.calls3I vs_129 k_125_3 (Nat.le_of_ble_eq_true rfl) (Nat.le_of_ble_eq_true rfl) (c_isWithin rfl (nI_toInt (by omega)) (nI_toInt (by omega)) ⟨_, rfl, ?_⟩)
      refine Zp.if_neB k_125_6 (fun c_6 => absurd c_6 (by omega)) (fun c_6 => ?_)
      refine Zp.iconst (-1) k_125_9 (by decide) ?_
      refine Zp.iret _ k_125_10 vr_125 rfl ?_
      exact hq I pc (FrC.rf I)
    · obtain ⟨m3, ⟨mp, xp⟩, m4, ms1, ms2, ms3, mk0, mk1, mi0, mi1, mt, mb, mf, mr, mh⟩ := id pm
      refine Zm.go [some (.ref _), some (.int _), some (.int _), some (.int _)] vl_225 rfl ?_
      refine Zp.iload_n k_225_0 rfl ?_
      refine Zp.iconst (nI 0) k_225_1 (by decide) ?_
      refine Zp.calls2I vs_223 k_225_2 (Nat.le_of_ble_eq_true rfl) (Nat.le_of_ble_eq_true rfl) (c_isSheetM rfl (nI_toInt (by omega)) ⟨_, rfl, ?_⟩)
      refine Zp.if_neB k_225_5 (fun c_5 => absurd c_5 (by omega)) (fun c_5 => ?_)
      refine Zp.iconst (-1) k_225_8 (by decide) ?_
      refine Zp.iret _ k_225_9 vr_225 rfl ?_
      first | exact hq I L pm (FrM.rf I) | exact hq I2 L pm2 (fun q hq => s2 q (by omega))
end SHEETS
