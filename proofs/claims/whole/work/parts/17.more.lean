/-! MORE OF WHAT IS CHANGED -/
theorem Xp.u36 {I : zI} {r u n : Nat} {U : zPl} {E : zSe} (h : Xp (I r) u U E) (hn : n ≤ U.1) (hU : U.1 ≤ 8) : Xp (zpu I r 36 (nI n) r) u (n, U.2) E := by
  obtain ⟨h1, h2, h3, h4, h5, h6⟩ := h
  exact ⟨by rw [zpu_k _ _ _ (by decide)]; exact h1, zpu_s _ _ _ _, fun i hi => by have h7 : i < n := hi; rw [zpu_k _ _ _ (by omega)]; exact h3 i (by omega), by rw [zpu_k _ _ _ (by decide)]; exact h4, fun i hi => by rw [zpu_k _ _ _ (by omega)]; exact h5 i hi, fun i hi => by rw [zpu_k _ _ _ (by omega)]; exact h6 i hi⟩
theorem Xp.add {I : zI} {r u p : Nat} {U : zPl} {E : zSe} (h : Xp (I r) u U E) (hU : U.1 < 8) : Xp (zpu (zpu I r (37 + U.1) (nI p)) r 36 (nI (U.1 + 1)) r) u (U.1 + 1, va_up U.2 U.1 p) E := by
  obtain ⟨h1, h2, h3, h4, h5, h6⟩ := h
  refine ⟨by rw [zpu_k _ _ _ (by decide), zpu_k _ _ _ (by omega)]; exact h1, zpu_s _ _ _ _, fun i hi => ?_, by rw [zpu_k _ _ _ (by decide), zpu_k _ _ _ (by omega)]; exact h4, fun i hi => by rw [zpu_k _ _ _ (by omega), zpu_k _ _ _ (by omega)]; exact h5 i hi, fun i hi => by rw [zpu_k _ _ _ (by omega), zpu_k _ _ _ (by omega)]; exact h6 i hi⟩
  have h7 : i < U.1 + 1 := hi
  show _ = nI (va_up U.2 U.1 p i)
  rw [zpu_k _ _ _ (by omega)]
  by_cases e : i = U.1
  · subst e; rw [zpu_s, va_up_s]
  · rw [zpu_k _ _ _ (by omega), va_up_n _ _ e]; exact h3 i (by omega)
theorem Xp.u45 {I : zI} {r u n : Nat} {U : zPl} {E : zSe} (h : Xp (I r) u U E) (hn : n ≤ E.1) (hU : U.1 ≤ 8) : Xp (zpu I r 45 (nI n) r) u U (n, E.2) := by
  obtain ⟨h1, h2, h3, h4, h5, h6⟩ := h
  exact ⟨by rw [zpu_k _ _ _ (by decide)]; exact h1, by rw [zpu_k _ _ _ (by decide)]; exact h2, fun i hi => by rw [zpu_k _ _ _ (by omega)]; exact h3 i (by omega), zpu_s _ _ _ _, fun i hi => by have h7 : i < n := hi; rw [zpu_k _ _ _ (by omega)]; exact h5 i (by omega), fun i hi => by have h7 : i < n := hi; rw [zpu_k _ _ _ (by omega)]; exact h6 i (by omega)⟩
theorem Xp.eadd {I : zI} {r u a b : Nat} {U : zPl} {E : zSe} (h : Xp (I r) u U E) (hE : E.1 < 6) (hU : U.1 ≤ 8) : Xp (zpu (zpu (zpu I r (46 + 2 * E.1) (nI a)) r (46 + 2 * E.1 + 1) (nI b)) r 45 (nI (E.1 + 1)) r) u U (eAdd E a b) := by
  obtain ⟨h1, h2, h3, h4, h5, h6⟩ := h
  refine ⟨by rw [zpu_k _ _ _ (by decide), zpu_k _ _ _ (by omega), zpu_k _ _ _ (by omega)]; exact h1, by rw [zpu_k _ _ _ (by decide), zpu_k _ _ _ (by omega), zpu_k _ _ _ (by omega)]; exact h2, fun i hi => by rw [zpu_k _ _ _ (by omega), zpu_k _ _ _ (by omega), zpu_k _ _ _ (by omega)]; exact h3 i hi, zpu_s _ _ _ _, fun i hi => ?_, fun i hi => ?_⟩
  · have h7 : i < E.1 + 1 := hi
    show _ = nI (va_up E.2.1 E.1 a i)
    rw [zpu_k _ _ _ (by omega), zpu_k _ _ _ (by omega)]
    by_cases e : i = E.1
    · subst e; rw [zpu_s, va_up_s]
    · rw [zpu_k _ _ _ (by omega), va_up_n _ _ e]; exact h5 i (by omega)
  · have h7 : i < E.1 + 1 := hi
    show _ = nI (va_up E.2.2 E.1 b i)
    rw [zpu_k _ _ _ (by omega)]
    by_cases e : i = E.1
    · subst e; rw [zpu_s, va_up_s]
    · rw [zpu_k _ _ _ (by omega), zpu_k _ _ _ (by omega), va_up_n _ _ e]; exact h6 i (by omega)
theorem PicM.rest {A : zQs} {I I' : zI} {U : zPl} {E : zSe} (h : PicM A I) (ho : Ao A) (hx : Xp (I' 94) (lu (kP (aK A))) U E) (hi : ∀ j, j < 35 ∨ 58 ≤ j → I' 94 j = I 94 j) (e : ∀ q, q ≠ 94 → q ≠ 95 → I' q = I q) : PicM (wK A (kS (aK A), kP (aK A), U, E)) I' :=
  h.st ho ⟨rfl, rfl, fun _ _ => ⟨rfl, rfl, rfl⟩⟩ ⟨h.2.1.1.fr ho.1.1.1 fun j hj => hi j (by omega), hx⟩ (fun j hj => hi j (by omega)) e
theorem Kp.rest {I I' : zI} {h : Nat} {K : zKi} {U : zPl} {E : zSe} (k : Kp I h K) (hu : Pp I' (h + 8) U) (he : Ep I' (h + 10) E) (e : ∀ q, h < q → q < h + 8 → I' q = I q) : Kp I' h (kS K, kP K, U, E) :=
  ⟨k.1.fr (e _ (by omega) (by omega)) (e _ (by omega) (by omega)) (e _ (by omega) (by omega)), k.2.1.fr (e _ (by omega) (by omega)) (e _ (by omega) (by omega)) (e _ (by omega) (by omega)) (e _ (by omega) (by omega)), hu, he⟩
theorem PicC.rest {A : zQs} {I I' : zI} {U : zPl} {E : zSe} (h : PicC A I) (hu : Pp I' 9 U) (he : Ep I' 11 E) (e : ∀ q, (q < 9 ∨ 13 < q) → I' q = I q) : PicC (wK A (kS (aK A), kP (aK A), U, E)) I' :=
  h.now (h.1.rest hu he fun q a b => e q (by omega)) fun q hq => e q (by omega)
theorem Ao.rest {A : zQs} {U : zPl} {E : zSe} (ho : Ao A) (hU : Po (sn (kS (aK A))) U) (hE : Eo E) : Ao (wK A (kS (aK A), kP (aK A), U, E)) :=
  ho.now ⟨ho.1.1, ho.1.2.1, ho.1.2.2.1, ho.1.2.2.2.1, hU, hE⟩ ⟨rfl, rfl, fun _ _ => ⟨rfl, rfl, rfl⟩⟩
section MORE
variable {G : zG} {A : zQs} {x y z : Int32}
theorem B_plans (ho : Ao A) : zBoth G 91 185 [.int x, .int y] A := by
  obtain ⟨⟨so, sz, sst, lo, po, eo⟩, ok0, ok1, oi0, oi1, ot, ob, of_, or_, oh⟩ := id ho
  obtain ⟨o1, o2, o3, o4, o5, o6, o7⟩ := id so
  obtain ⟨p1, p2, p3⟩ := id lo
  obtain ⟨u1, u2⟩ := id po
  obtain ⟨e1, e2⟩ := id eo
  by_cases v : (0 ≤ x.toInt ∧ x.toInt < (sn (kS (aK A)) : Int)) ∧ (0 ≤ y.toInt ∧ y.toInt < (sn (kS (aK A)) : Int)) ∧ ¬ x.toInt = y.toInt
  · obtain ⟨a, ha, rfl, ea⟩ := zin_nI v.1.1 v.1.2
    obtain ⟨b, hb0, rfl, eb⟩ := zin_nI v.2.1.1 v.2.1.2
    by_cases w : (kU (aK A)).1 = 8
    · refine ⟨.int (-3), A, ho, fun I L Q pc hq => ?_, fun I L Q pm hq => ?_⟩
      · obtain ⟨⟨hp, lp, pp, ep⟩, hk, hi0, hi1, ht, hb, hf, hr, hh⟩ := id pc
        refine Zm.go [some (.ref _), some (.int _), some (.int _)] vl_91 rfl ?_
        refine Zp.aload_n k_91_0 rfl ?_
        refine Zp.getR k_91_1 rfl (zlt rfl) m_0 r_0_0 ?_
        refine Zp.getR k_91_4 rfl (zlt rfl) m_1 r_1_0 ?_
        refine Zp.iload_n k_91_7 rfl ?_
        refine Zp.iload_n k_91_8 rfl ?_
        refine Zp.callv2I v_57 k_91_9 m_2 (Nat.le_of_ble_eq_true rfl) (Nat.le_of_ble_eq_true rfl) (c_areTwo sa_2 hp so ⟨_, rfl, ?_⟩)
        refine Zp.if_neB k_91_12 (fun c_12 => ?_) (fun c_12 => absurd c_12 (by omega))
        refine Zp.aload_n k_91_17 rfl ?_
        refine Zp.getR k_91_18 rfl (zlt rfl) m_0 r_0_0 ?_
        refine Zp.getR k_91_21 rfl (zlt rfl) m_1 r_1_2 ?_
        refine Zp.callv0I v_10 k_91_24 m_9 (Nat.le_of_ble_eq_true rfl) (Nat.le_of_ble_eq_true rfl) (c_Plan_isFull pa_9 pp po ⟨_, rfl, ?_⟩)
        refine Zp.if_eqB k_91_27 (fun c_27 => absurd c_27 (by omega)) (fun c_27 => ?_)
        refine Zp.bipush (-3) k_91_30 (by decide) ?_
        refine Zp.iret _ k_91_32 vr_91 rfl ?_
        exact hq I pc (FrC.rf I)
      · obtain ⟨m3, ⟨mp, xp⟩, m4, ms1, ms2, ms3, mk0, mk1, mi0, mi1, mt, mb, mf, mr, mh⟩ := id pm
        refine Zm.go [some (.ref _), some (.int _), some (.int _)] vl_185 rfl ?_
        refine Zp.aload_n k_185_0 rfl ?_
        refine Zp.iload_n k_185_1 rfl ?_
        refine Zp.iload_n k_185_2 rfl ?_
        refine Zp.callv2I v_156 k_185_3 m_93 (Nat.le_of_ble_eq_true rfl) (Nat.le_of_ble_eq_true rfl) (c_areTwoM m3 (by omega) ⟨_, rfl, ?_⟩)
        refine Zp.if_neB k_185_6 (fun c_6 => ?_) (fun c_6 => absurd c_6 (by omega))
        refine Zp.aload_n k_185_11 rfl ?_
        refine Zp.getR k_185_12 rfl (zlt rfl) m_93 r_93_0 ?_
        refine Zp.bipush (nI 36) k_185_15 (by decide) ?_
        refine Zp.iald _ k_185_17 m_94 rfl (by omega) (zlt rfl) (by first | exact mp.2.2.1 | exact mp.2.2.2.1 | exact mp.2.2.2.2.1 | exact mp.2.2.2.2.2.1 | exact mp.2.2.2.2.2.2 | exact xp.1 | exact xp.2.1 | exact xp.2.2.2.1 | exact xp.2.2.1 _ (by omega) | exact xp.2.2.2.2.2 _ (by omega) | exact xp.2.2.2.2.1 _ (by omega) | exact mp.hh (by omega) (by omega) | exact mp.kk (by omega) | exact mp.2.1 _ (by omega)) ?_
        refine Zp.bipush (nI 8) k_185_18 (by decide) ?_
        refine Zp.icmp_neN k_185_20 (by omega) (by omega) (fun c_20 => absurd c_20 (by omega)) (fun c_20 => ?_)
        refine Zp.bipush (-3) k_185_23 (by decide) ?_
        refine Zp.iret _ k_185_25 vr_185 rfl ?_
        first | exact hq I L pm (FrM.rf I) | exact hq I2 L pm2 (fun q hq => s2 q (by omega))
    · refine ⟨.int (nI ((kU (aK A)).1 + 1)), wK A (kS (aK A), kP (aK A), pAdd (kU (aK A)) a b, kE (aK A)), ho.rest ⟨by show (kU (aK A)).1 + 1 ≤ 8; omega, fun i hi => ?_⟩ eo, fun I L Q pc hq => ?_, fun I L Q pm hq => ?_⟩
      · have h7 : i < (kU (aK A)).1 + 1 := hi
        show va_up (kU (aK A)).2 (kU (aK A)).1 (10 * min a b + max a b) i / 10 < va_up (kU (aK A)).2 (kU (aK A)).1 (10 * min a b + max a b) i % 10 ∧ va_up (kU (aK A)).2 (kU (aK A)).1 (10 * min a b + max a b) i % 10 < sn (kS (aK A)) ∧ va_up (kU (aK A)).2 (kU (aK A)).1 (10 * min a b + max a b) i < 100
        by_cases e : i = (kU (aK A)).1
        · subst e; rw [va_up_s]; omega
        · rw [va_up_n _ _ e]; exact u2 i (by omega)
      · obtain ⟨⟨hp, lp, pp, ep⟩, hk, hi0, hi1, ht, hb, hf, hr, hh⟩ := id pc
        refine Zm.go [some (.ref _), some (.int _), some (.int _)] vl_91 rfl ?_
        refine Zp.aload_n k_91_0 rfl ?_
        refine Zp.getR k_91_1 rfl (zlt rfl) m_0 r_0_0 ?_
        refine Zp.getR k_91_4 rfl (zlt rfl) m_1 r_1_0 ?_
        refine Zp.iload_n k_91_7 rfl ?_
        refine Zp.iload_n k_91_8 rfl ?_
        refine Zp.callv2I v_57 k_91_9 m_2 (Nat.le_of_ble_eq_true rfl) (Nat.le_of_ble_eq_true rfl) (c_areTwo sa_2 hp so ⟨_, rfl, ?_⟩)
        refine Zp.if_neB k_91_12 (fun c_12 => ?_) (fun c_12 => absurd c_12 (by omega))
        refine Zp.aload_n k_91_17 rfl ?_
        refine Zp.getR k_91_18 rfl (zlt rfl) m_0 r_0_0 ?_
        refine Zp.getR k_91_21 rfl (zlt rfl) m_1 r_1_2 ?_
        refine Zp.callv0I v_10 k_91_24 m_9 (Nat.le_of_ble_eq_true rfl) (Nat.le_of_ble_eq_true rfl) (c_Plan_isFull pa_9 pp po ⟨_, rfl, ?_⟩)
        refine Zp.if_eqB k_91_27 (fun c_27 => ?_) (fun c_27 => absurd c_27 (by omega))
        refine Zp.aload_n k_91_33 rfl ?_
        refine Zp.getR k_91_34 rfl (zlt rfl) m_0 r_0_0 ?_
        refine Zp.getR k_91_37 rfl (zlt rfl) m_1 r_1_2 ?_
        refine Zp.iload_n k_91_40 rfl ?_
        refine Zp.iload_n k_91_41 rfl ?_
        refine Zp.callv2V v_11 k_91_42 m_9 (Nat.le_of_ble_eq_true rfl) (Nat.le_of_ble_eq_true rfl) (c_Plan_add pa_9 pp (by omega) (by omega) (by omega) (fun I2 pp2 f2 => ⟨rfl, ?_⟩))
        refine Zp.aload_n k_91_45 rfl ?_
        refine Zp.getR k_91_46 rfl (zlt rfl) m_0 r_0_0 ?_
        refine Zp.getR k_91_49 rfl (zlt rfl) m_1 r_1_2 ?_
        refine Zp.getV k_91_52 rfl (zlt rfl) m_9 pp2.1 ?_
        refine Zp.iret _ k_91_55 vr_91 rfl ?_
        exact hq _ (pc.rest pp2 (ep.fr (f2 _ (by decide) (by decide)) (f2 _ (by decide) (by decide)) (f2 _ (by decide) (by decide))) (fun q h => f2 q (by omega) (by omega))) (fun q h => f2 q (by omega) (by omega))
      · obtain ⟨m3, ⟨mp, xp⟩, m4, ms1, ms2, ms3, mk0, mk1, mi0, mi1, mt, mb, mf, mr, mh⟩ := id pm
        refine Zm.go [some (.ref _), some (.int _), some (.int _)] vl_185 rfl ?_
        refine Zp.aload_n k_185_0 rfl ?_
        refine Zp.iload_n k_185_1 rfl ?_
        refine Zp.iload_n k_185_2 rfl ?_
        refine Zp.callv2I v_156 k_185_3 m_93 (Nat.le_of_ble_eq_true rfl) (Nat.le_of_ble_eq_true rfl) (c_areTwoM m3 (by omega) ⟨_, rfl, ?_⟩)
        refine Zp.if_neB k_185_6 (fun c_6 => ?_) (fun c_6 => absurd c_6 (by omega))
        refine Zp.aload_n k_185_11 rfl ?_
        refine Zp.getR k_185_12 rfl (zlt rfl) m_93 r_93_0 ?_
        refine Zp.bipush (nI 36) k_185_15 (by decide) ?_
        refine Zp.iald _ k_185_17 m_94 rfl (by omega) (zlt rfl) (by first | exact mp.2.2.1 | exact mp.2.2.2.1 | exact mp.2.2.2.2.1 | exact mp.2.2.2.2.2.1 | exact mp.2.2.2.2.2.2 | exact xp.1 | exact xp.2.1 | exact xp.2.2.2.1 | exact xp.2.2.1 _ (by omega) | exact xp.2.2.2.2.2 _ (by omega) | exact xp.2.2.2.2.1 _ (by omega) | exact mp.hh (by omega) (by omega) | exact mp.kk (by omega) | exact mp.2.1 _ (by omega)) ?_
        refine Zp.bipush (nI 8) k_185_18 (by decide) ?_
        refine Zp.icmp_neN k_185_20 (by omega) (by omega) (fun c_20 => ?_) (fun c_20 => (by first | exact absurd c_20 w | exact absurd w c_20))
        refine Zp.aload_n k_185_26 rfl ?_
        refine Zp.getR k_185_27 rfl (zlt rfl) m_93 r_93_0 ?_
        refine Zp.bipush (nI 37) k_185_30 (by decide) ?_
        refine Zp.aload_n k_185_32 rfl ?_
        refine Zp.getR k_185_33 rfl (zlt rfl) m_93 r_93_0 ?_
        refine Zp.bipush (nI 36) k_185_36 (by decide) ?_
        refine Zp.iald _ k_185_38 m_94 rfl (by omega) (zlt rfl) (by first | exact mp.2.2.1 | exact mp.2.2.2.1 | exact mp.2.2.2.2.1 | exact mp.2.2.2.2.2.1 | exact mp.2.2.2.2.2.2 | exact xp.1 | exact xp.2.1 | exact xp.2.2.2.1 | exact xp.2.2.1 _ (by omega) | exact xp.2.2.2.2.2 _ (by omega) | exact xp.2.2.2.2.1 _ (by omega) | exact mp.hh (by omega) (by omega) | exact mp.kk (by omega) | exact mp.2.1 _ (by omega)) ?_
        refine Zp.iaddN k_185_39 ?_
        refine Zp.iload_n k_185_40 rfl ?_
        refine Zp.iload_n k_185_41 rfl ?_
        refine Zp.calls2I vs_149 k_185_42 (Nat.le_of_ble_eq_true rfl) (Nat.le_of_ble_eq_true rfl) (c_pairOfM (by omega) (by omega) ⟨_, rfl, ?_⟩)
        refine Zp.iast _ k_185_45 m_94 rfl (by omega) (zlt rfl) ?_
        refine Zp.aload_n k_185_46 rfl ?_
        refine Zp.getR k_185_47 rfl (zlt rfl) m_93 r_93_0 ?_
        refine Zp.bipush (nI 36) k_185_50 (by decide) ?_
        refine Zp.dup2 k_185_52 rfl rfl ?_
        refine Zp.iald _ k_185_53 m_94 rfl (by omega) (zlt rfl) (by first | exact (zpu_k _ _ _ (by omega)).trans xp.2.1) ?_
        refine Zp.iconst (nI 1) k_185_54 (by decide) ?_
        refine Zp.iaddN k_185_55 ?_
        refine Zp.iast _ k_185_56 m_94 rfl (by omega) (zlt rfl) ?_
        refine Zp.aload_n k_185_57 rfl ?_
        refine Zp.getR k_185_58 rfl (zlt rfl) m_93 r_93_0 ?_
        refine Zp.bipush (nI 36) k_185_61 (by decide) ?_
        refine Zp.iald _ k_185_63 m_94 rfl (by omega) (zlt rfl) (zpu_s _ _ _ _) ?_
        refine Zp.iret _ k_185_64 vr_185 rfl ?_
        exact hq _ _ (pm.rest ho (xp.add (by omega)) (fun j hj => by rw [zpu_k _ _ _ (by omega), zpu_k _ _ _ (by omega)]) (fun q h _ => by rw [zpu_q _ _ _ h, zpu_q _ _ _ h])) (fun q h => by rw [zpu_q _ _ _ (by omega), zpu_q _ _ _ (by omega)])
  · refine ⟨.int (-1), A, ho, fun I L Q pc hq => ?_, fun I L Q pm hq => ?_⟩
    · obtain ⟨⟨hp, lp, pp, ep⟩, hk, hi0, hi1, ht, hb, hf, hr, hh⟩ := id pc
      refine Zm.go [some (.ref _), some (.int _), some (.int _)] vl_91 rfl ?_
      refine Zp.aload_n k_91_0 rfl ?_
      refine Zp.getR k_91_1 rfl (zlt rfl) m_0 r_0_0 ?_
      refine Zp.getR k_91_4 rfl (zlt rfl) m_1 r_1_0 ?_
      refine Zp.iload_n k_91_7 rfl ?_
      refine Zp.iload_n k_91_8 rfl ?_
      refine Zp.callv2I v_57 k_91_9 m_2 (Nat.le_of_ble_eq_true rfl) (Nat.le_of_ble_eq_true rfl) (c_areTwo sa_2 hp so ⟨_, rfl, ?_⟩)
      refine Zp.if_neB k_91_12 (fun c_12 => (by first | exact absurd c_12 v | exact absurd v c_12)) (fun c_12 => ?_)
      refine Zp.iconst (-1) k_91_15 (by decide) ?_
      refine Zp.iret _ k_91_16 vr_91 rfl ?_
      exact hq I pc (FrC.rf I)
    · obtain ⟨m3, ⟨mp, xp⟩, m4, ms1, ms2, ms3, mk0, mk1, mi0, mi1, mt, mb, mf, mr, mh⟩ := id pm
      refine Zm.go [some (.ref _), some (.int _), some (.int _)] vl_185 rfl ?_
      refine Zp.aload_n k_185_0 rfl ?_
      refine Zp.iload_n k_185_1 rfl ?_
      refine Zp.iload_n k_185_2 rfl ?_
      refine Zp.callv2I v_156 k_185_3 m_93 (Nat.le_of_ble_eq_true rfl) (Nat.le_of_ble_eq_true rfl) (c_areTwoM m3 (by omega) ⟨_, rfl, ?_⟩)
      refine Zp.if_neB k_185_6 (fun c_6 => (by first | exact absurd c_6 v | exact absurd v c_6)) (fun c_6 => ?_)
      refine Zp.iconst (-1) k_185_9 (by decide) ?_
      refine Zp.iret _ k_185_10 vr_185 rfl ?_
      first | exact hq I L pm (FrM.rf I) | exact hq I2 L pm2 (fun q hq => s2 q (by omega))
theorem B_cut (ho : Ao A) : zBoth G 92 186 [.int x] A := by
  obtain ⟨⟨so, sz, sst, lo, po, eo⟩, ok0, ok1, oi0, oi1, ot, ob, of_, or_, oh⟩ := id ho
  obtain ⟨o1, o2, o3, o4, o5, o6, o7⟩ := id so
  obtain ⟨p1, p2, p3⟩ := id lo
  obtain ⟨u1, u2⟩ := id po
  obtain ⟨e1, e2⟩ := id eo
  by_cases v : 0 ≤ x.toInt ∧ x.toInt ≤ ((kU (aK A)).1 : Int)
  · obtain ⟨c, hc, rfl, ec⟩ := zin_nI (n := (kU (aK A)).1 + 1) v.1 (by omega)
    refine ⟨.int (nI (kU (aK A)).1), wK A (kS (aK A), kP (aK A), (c, (kU (aK A)).2), kE (aK A)), ho.rest ⟨by show c ≤ 8; omega, fun i hi => u2 i (by have h7 : i < c := hi; omega)⟩ eo, fun I L Q pc hq => ?_, fun I L Q pm hq => ?_⟩
    · obtain ⟨⟨hp, lp, pp, ep⟩, hk, hi0, hi1, ht, hb, hf, hr, hh⟩ := id pc
      refine Zm.go [some (.ref _), some (.int _), none] vl_92 rfl ?_
      refine Zp.iload_n k_92_0 rfl ?_
      refine Zp.iconst (nI 0) k_92_1 (by decide) ?_
      refine Zp.aload_n k_92_2 rfl ?_
      refine Zp.getR k_92_3 rfl (zlt rfl) m_0 r_0_0 ?_
      refine Zp.getR k_92_6 rfl (zlt rfl) m_1 r_1_2 ?_
      refine Zp.getV k_92_9 rfl (zlt rfl) m_9 pp.1 ?_
      refine Zp.calls3I vs_129 k_92_12 (Nat.le_of_ble_eq_true rfl) (Nat.le_of_ble_eq_true rfl) (c_isWithin (nI_toInt (by omega)) (nI_toInt (by omega)) (nI_toInt (by omega)) ⟨_, rfl, ?_⟩)
      refine Zp.if_neB k_92_15 (fun c_15 => ?_) (fun c_15 => absurd c_15 (by omega))
      refine Zp.aload_n k_92_20 rfl ?_
      refine Zp.getR k_92_21 rfl (zlt rfl) m_0 r_0_0 ?_
      refine Zp.getR k_92_24 rfl (zlt rfl) m_1 r_1_2 ?_
      refine Zp.getV k_92_27 rfl (zlt rfl) m_9 pp.1 ?_
      refine Zp.istore_n [some (.ref _), some (.int _), some (.int _)] k_92_30 (Nat.lt_of_lt_of_eq (zlt rfl : 2 < 3) vl_92.symm) rfl ?_
      refine Zp.aload_n k_92_31 rfl ?_
      refine Zp.getR k_92_32 rfl (zlt rfl) m_0 r_0_0 ?_
      refine Zp.getR k_92_35 rfl (zlt rfl) m_1 r_1_2 ?_
      refine Zp.iload_n k_92_38 rfl ?_
      refine Zp.putI k_92_39 rfl (zlt rfl) m_9 ?_
      refine Zp.iload_n k_92_42 rfl ?_
      refine Zp.iret _ k_92_43 vr_92 rfl ?_
      exact hq _ (pc.rest ⟨zpu_s _ _ _ _, fun i hi => by have h7 : i < c := hi; rw [zpu_q _ _ _ (by decide)]; exact pp.2 i (by omega)⟩ (ep.fr (zpu_q _ _ _ (by decide)) (zpu_q _ _ _ (by decide)) (zpu_q _ _ _ (by decide))) (fun q h => zpu_q _ _ _ (by omega))) (fun q h => zpu_q _ _ _ (by omega))
    · obtain ⟨m3, ⟨mp, xp⟩, m4, ms1, ms2, ms3, mk0, mk1, mi0, mi1, mt, mb, mf, mr, mh⟩ := id pm
      refine Zm.go [some (.ref _), some (.int _)] vl_186 rfl ?_
      refine Zp.iload_n k_186_0 rfl ?_
      refine Zp.i2l k_186_1 ?_
      refine Zp.lconst (lN 0) k_186_2 (by decide) ?_
      refine Zp.aload_n k_186_3 rfl ?_
      refine Zp.getR k_186_4 rfl (zlt rfl) m_93 r_93_0 ?_
      refine Zp.bipush (nI 36) k_186_7 (by decide) ?_
      refine Zp.iald _ k_186_9 m_94 rfl (by omega) (zlt rfl) (by first | exact mp.2.2.1 | exact mp.2.2.2.1 | exact mp.2.2.2.2.1 | exact mp.2.2.2.2.2.1 | exact mp.2.2.2.2.2.2 | exact xp.1 | exact xp.2.1 | exact xp.2.2.2.1 | exact xp.2.2.1 _ (by omega) | exact xp.2.2.2.2.2 _ (by omega) | exact xp.2.2.2.2.1 _ (by omega) | exact mp.hh (by omega) (by omega) | exact mp.kk (by omega) | exact mp.2.1 _ (by omega)) ?_
      refine Zp.i2l k_186_10 ?_
      refine Zp.calls3I vs_131 k_186_11 (Nat.le_of_ble_eq_true rfl) (Nat.le_of_ble_eq_true rfl) (c_in (zi2n (by omega)) (lN_z (by decide)) (zi2n (by omega)) ⟨_, rfl, ?_⟩)
      refine Zp.if_eqB k_186_14 (fun c_14 => absurd c_14 (by omega)) (fun c_14 => ?_)
      refine Zp.aload_n k_186_17 rfl ?_
      refine Zp.bipush (nI 36) k_186_18 (by decide) ?_
      refine Zp.iload_n k_186_20 rfl ?_
      refine Zp.callv2I v_177 k_186_21 m_93 (Nat.le_of_ble_eq_true rfl) (Nat.le_of_ble_eq_true rfl) (c_becomesM (by omega) ⟨_, rfl, ?_⟩)
      refine Zp.goto k_186_24 ?_
      refine Zp.iret _ k_186_28 vr_186 rfl ?_
      exact zqe (hq _ _ (pm.rest ho (xp.u36 (by omega) u1) (fun j hj => zpu_k _ _ _ (by omega)) (fun q h _ => zpu_q _ _ _ h)) (fun q h => zpu_q _ _ _ (by omega))) xp.2.1
  · refine ⟨.int (-1), A, ho, fun I L Q pc hq => ?_, fun I L Q pm hq => ?_⟩
    · obtain ⟨⟨hp, lp, pp, ep⟩, hk, hi0, hi1, ht, hb, hf, hr, hh⟩ := id pc
      refine Zm.go [some (.ref _), some (.int _), none] vl_92 rfl ?_
      refine Zp.iload_n k_92_0 rfl ?_
      refine Zp.iconst (nI 0) k_92_1 (by decide) ?_
      refine Zp.aload_n k_92_2 rfl ?_
      refine Zp.getR k_92_3 rfl (zlt rfl) m_0 r_0_0 ?_
      refine Zp.getR k_92_6 rfl (zlt rfl) m_1 r_1_2 ?_
      refine Zp.getV k_92_9 rfl (zlt rfl) m_9 pp.1 ?_
      refine Zp.calls3I vs_129 k_92_12 (Nat.le_of_ble_eq_true rfl) (Nat.le_of_ble_eq_true rfl) (c_isWithin rfl (nI_toInt (by omega)) (nI_toInt (by omega)) ⟨_, rfl, ?_⟩)
      refine Zp.if_neB k_92_15 (fun c_15 => absurd c_15 (by omega)) (fun c_15 => ?_)
      refine Zp.iconst (-1) k_92_18 (by decide) ?_
      refine Zp.iret _ k_92_19 vr_92 rfl ?_
      exact hq I pc (FrC.rf I)
    · obtain ⟨m3, ⟨mp, xp⟩, m4, ms1, ms2, ms3, mk0, mk1, mi0, mi1, mt, mb, mf, mr, mh⟩ := id pm
      refine Zm.go [some (.ref _), some (.int _)] vl_186 rfl ?_
      refine Zp.iload_n k_186_0 rfl ?_
      refine Zp.i2l k_186_1 ?_
      refine Zp.lconst (lN 0) k_186_2 (by decide) ?_
      refine Zp.aload_n k_186_3 rfl ?_
      refine Zp.getR k_186_4 rfl (zlt rfl) m_93 r_93_0 ?_
      refine Zp.bipush (nI 36) k_186_7 (by decide) ?_
      refine Zp.iald _ k_186_9 m_94 rfl (by omega) (zlt rfl) (by first | exact mp.2.2.1 | exact mp.2.2.2.1 | exact mp.2.2.2.2.1 | exact mp.2.2.2.2.2.1 | exact mp.2.2.2.2.2.2 | exact xp.1 | exact xp.2.1 | exact xp.2.2.2.1 | exact xp.2.2.1 _ (by omega) | exact xp.2.2.2.2.2 _ (by omega) | exact xp.2.2.2.2.1 _ (by omega) | exact mp.hh (by omega) (by omega) | exact mp.kk (by omega) | exact mp.2.1 _ (by omega)) ?_
      refine Zp.i2l k_186_10 ?_
      refine Zp.calls3I vs_131 k_186_11 (Nat.le_of_ble_eq_true rfl) (Nat.le_of_ble_eq_true rfl) (c_in (zi2l _) (lN_z (by decide)) (zi2n (by omega)) ⟨_, rfl, ?_⟩)
      refine Zp.if_eqB k_186_14 (fun c_14 => ?_) (fun c_14 => absurd c_14 (by omega))
      refine Zp.iconst (-1) k_186_27 (by decide) ?_
      refine Zp.iret _ k_186_28 vr_186 rfl ?_
      first | exact hq I L pm (FrM.rf I) | exact hq I2 L pm2 (fun q hq => s2 q (by omega))
theorem B_see (ho : Ao A) : zBoth G 108 208 [.int x, .int y] A := by
  obtain ⟨⟨so, sz, sst, lo, po, eo⟩, ok0, ok1, oi0, oi1, ot, ob, of_, or_, oh⟩ := id ho
  obtain ⟨o1, o2, o3, o4, o5, o6, o7⟩ := id so
  obtain ⟨p1, p2, p3⟩ := id lo
  obtain ⟨u1, u2⟩ := id po
  obtain ⟨e1, e2⟩ := id eo
  by_cases v : 0 ≤ x.toInt ∧ x.toInt ≤ 9
  · by_cases w : 0 ≤ y.toInt ∧ y.toInt ≤ 18
    · obtain ⟨a, ha, rfl, ea⟩ := zin_nI (n := 10) v.1 (by omega)
      obtain ⟨b, hb0, rfl, eb⟩ := zin_nI (n := 19) w.1 (by omega)
      by_cases s : (kE (aK A)).1 = 6
      · refine ⟨.int (-3), A, ho, fun I L Q pc hq => ?_, fun I L Q pm hq => ?_⟩
        · obtain ⟨⟨hp, lp, pp, ep⟩, hk, hi0, hi1, ht, hb, hf, hr, hh⟩ := id pc
          refine Zm.go [some (.ref _), some (.int _), some (.int _)] vl_108 rfl ?_
          refine Zp.iload_n k_108_0 rfl ?_
          refine Zp.iconst (nI 0) k_108_1 (by decide) ?_
          refine Zp.bipush (nI 9) k_108_2 (by decide) ?_
          refine Zp.calls3I vs_129 k_108_4 (Nat.le_of_ble_eq_true rfl) (Nat.le_of_ble_eq_true rfl) (c_isWithin (nI_toInt (by omega)) (nI_toInt (by omega)) (nI_toInt (by omega)) ⟨_, rfl, ?_⟩)
          refine Zp.if_eqB k_108_7 (fun c_7 => absurd c_7 (by omega)) (fun c_7 => ?_)
          refine Zp.iload_n k_108_10 rfl ?_
          refine Zp.iconst (nI 0) k_108_11 (by decide) ?_
          refine Zp.bipush (nI 18) k_108_12 (by decide) ?_
          refine Zp.calls3I vs_129 k_108_14 (Nat.le_of_ble_eq_true rfl) (Nat.le_of_ble_eq_true rfl) (c_isWithin (nI_toInt (by omega)) (nI_toInt (by omega)) (nI_toInt (by omega)) ⟨_, rfl, ?_⟩)
          refine Zp.if_neB k_108_17 (fun c_17 => ?_) (fun c_17 => absurd c_17 (by omega))
          refine Zp.aload_n k_108_22 rfl ?_
          refine Zp.getR k_108_23 rfl (zlt rfl) m_0 r_0_0 ?_
          refine Zp.getR k_108_26 rfl (zlt rfl) m_1 r_1_3 ?_
          refine Zp.callv0I v_38 k_108_29 m_11 (Nat.le_of_ble_eq_true rfl) (Nat.le_of_ble_eq_true rfl) (c_Seen_isFull ea_11 ep eo ⟨_, rfl, ?_⟩)
          refine Zp.if_eqB k_108_32 (fun c_32 => absurd c_32 (by omega)) (fun c_32 => ?_)
          refine Zp.bipush (-3) k_108_35 (by decide) ?_
          refine Zp.iret _ k_108_37 vr_108 rfl ?_
          exact hq I pc (FrC.rf I)
        · obtain ⟨m3, ⟨mp, xp⟩, m4, ms1, ms2, ms3, mk0, mk1, mi0, mi1, mt, mb, mf, mr, mh⟩ := id pm
          refine Zm.go [some (.ref _), some (.int _), some (.int _)] vl_208 rfl ?_
          refine Zp.iload_n k_208_0 rfl ?_
          refine Zp.i2l k_208_1 ?_
          refine Zp.lconst (lN 0) k_208_2 (by decide) ?_
          refine Zp.ldc2 (lN 9) k_208_3 (by decide) ?_
          refine Zp.calls3I vs_131 k_208_6 (Nat.le_of_ble_eq_true rfl) (Nat.le_of_ble_eq_true rfl) (c_in (zi2n (by omega)) (lN_z (by decide)) (lN_z (by decide)) ⟨_, rfl, ?_⟩)
          refine Zp.if_eqB k_208_9 (fun c_9 => absurd c_9 (by omega)) (fun c_9 => ?_)
          refine Zp.iload_n k_208_12 rfl ?_
          refine Zp.i2l k_208_13 ?_
          refine Zp.lconst (lN 0) k_208_14 (by decide) ?_
          refine Zp.ldc2 (lN 18) k_208_15 (by decide) ?_
          refine Zp.calls3I vs_131 k_208_18 (Nat.le_of_ble_eq_true rfl) (Nat.le_of_ble_eq_true rfl) (c_in (zi2n (by omega)) (lN_z (by decide)) (lN_z (by decide)) ⟨_, rfl, ?_⟩)
          refine Zp.if_neB k_208_21 (fun c_21 => ?_) (fun c_21 => absurd c_21 (by omega))
          refine Zp.aload_n k_208_26 rfl ?_
          refine Zp.getR k_208_27 rfl (zlt rfl) m_93 r_93_0 ?_
          refine Zp.bipush (nI 45) k_208_30 (by decide) ?_
          refine Zp.iald _ k_208_32 m_94 rfl (by omega) (zlt rfl) (by first | exact mp.2.2.1 | exact mp.2.2.2.1 | exact mp.2.2.2.2.1 | exact mp.2.2.2.2.2.1 | exact mp.2.2.2.2.2.2 | exact xp.1 | exact xp.2.1 | exact xp.2.2.2.1 | exact xp.2.2.1 _ (by omega) | exact xp.2.2.2.2.2 _ (by omega) | exact xp.2.2.2.2.1 _ (by omega) | exact mp.hh (by omega) (by omega) | exact mp.kk (by omega) | exact mp.2.1 _ (by omega)) ?_
          refine Zp.bipush (nI 6) k_208_33 (by decide) ?_
          refine Zp.icmp_neN k_208_35 (by omega) (by omega) (fun c_35 => absurd c_35 (by omega)) (fun c_35 => ?_)
          refine Zp.bipush (-3) k_208_38 (by decide) ?_
          refine Zp.iret _ k_208_40 vr_208 rfl ?_
          first | exact hq I L pm (FrM.rf I) | exact hq I2 L pm2 (fun q hq => s2 q (by omega))
      · refine ⟨.int (nI ((kE (aK A)).1 + 1)), wK A (kS (aK A), kP (aK A), kU (aK A), eAdd (kE (aK A)) a b), ho.rest po ⟨by show (kE (aK A)).1 + 1 ≤ 6; omega, fun i hi => ?_⟩, fun I L Q pc hq => ?_, fun I L Q pm hq => ?_⟩
        · have h7 : i < (kE (aK A)).1 + 1 := hi
          show va_up (kE (aK A)).2.1 (kE (aK A)).1 a i ≤ 9 ∧ va_up (kE (aK A)).2.2 (kE (aK A)).1 b i ≤ 18
          by_cases e : i = (kE (aK A)).1
          · subst e; rw [va_up_s, va_up_s]; omega
          · rw [va_up_n _ _ e, va_up_n _ _ e]; exact e2 i (by omega)
        · obtain ⟨⟨hp, lp, pp, ep⟩, hk, hi0, hi1, ht, hb, hf, hr, hh⟩ := id pc
          refine Zm.go [some (.ref _), some (.int _), some (.int _)] vl_108 rfl ?_
          refine Zp.iload_n k_108_0 rfl ?_
          refine Zp.iconst (nI 0) k_108_1 (by decide) ?_
          refine Zp.bipush (nI 9) k_108_2 (by decide) ?_
          refine Zp.calls3I vs_129 k_108_4 (Nat.le_of_ble_eq_true rfl) (Nat.le_of_ble_eq_true rfl) (c_isWithin (nI_toInt (by omega)) (nI_toInt (by omega)) (nI_toInt (by omega)) ⟨_, rfl, ?_⟩)
          refine Zp.if_eqB k_108_7 (fun c_7 => absurd c_7 (by omega)) (fun c_7 => ?_)
          refine Zp.iload_n k_108_10 rfl ?_
          refine Zp.iconst (nI 0) k_108_11 (by decide) ?_
          refine Zp.bipush (nI 18) k_108_12 (by decide) ?_
          refine Zp.calls3I vs_129 k_108_14 (Nat.le_of_ble_eq_true rfl) (Nat.le_of_ble_eq_true rfl) (c_isWithin (nI_toInt (by omega)) (nI_toInt (by omega)) (nI_toInt (by omega)) ⟨_, rfl, ?_⟩)
          refine Zp.if_neB k_108_17 (fun c_17 => ?_) (fun c_17 => absurd c_17 (by omega))
          refine Zp.aload_n k_108_22 rfl ?_
          refine Zp.getR k_108_23 rfl (zlt rfl) m_0 r_0_0 ?_
          refine Zp.getR k_108_26 rfl (zlt rfl) m_1 r_1_3 ?_
          refine Zp.callv0I v_38 k_108_29 m_11 (Nat.le_of_ble_eq_true rfl) (Nat.le_of_ble_eq_true rfl) (c_Seen_isFull ea_11 ep eo ⟨_, rfl, ?_⟩)
          refine Zp.if_eqB k_108_32 (fun c_32 => ?_) (fun c_32 => absurd c_32 (by omega))
          refine Zp.aload_n k_108_38 rfl ?_
          refine Zp.getR k_108_39 rfl (zlt rfl) m_0 r_0_0 ?_
          refine Zp.getR k_108_42 rfl (zlt rfl) m_1 r_1_3 ?_
          refine Zp.iload_n k_108_45 rfl ?_
          refine Zp.iload_n k_108_46 rfl ?_
          refine Zp.callv2V v_39 k_108_47 m_11 (Nat.le_of_ble_eq_true rfl) (Nat.le_of_ble_eq_true rfl) (c_Seen_add ea_11 ep (by omega) (fun I2 ep2 f2 => ⟨rfl, ?_⟩))
          refine Zp.aload_n k_108_50 rfl ?_
          refine Zp.getR k_108_51 rfl (zlt rfl) m_0 r_0_0 ?_
          refine Zp.getR k_108_54 rfl (zlt rfl) m_1 r_1_3 ?_
          refine Zp.getV k_108_57 rfl (zlt rfl) m_11 ep2.1 ?_
          refine Zp.iret _ k_108_60 vr_108 rfl ?_
          exact hq _ (pc.rest (pp.fr (f2 _ (by decide) (by decide) (by decide)) (f2 _ (by decide) (by decide) (by decide))) ep2 (fun q h => f2 q (by omega) (by omega) (by omega))) (fun q h => f2 q (by omega) (by omega) (by omega))
        · obtain ⟨m3, ⟨mp, xp⟩, m4, ms1, ms2, ms3, mk0, mk1, mi0, mi1, mt, mb, mf, mr, mh⟩ := id pm
          refine Zm.go [some (.ref _), some (.int _), some (.int _)] vl_208 rfl ?_
          refine Zp.iload_n k_208_0 rfl ?_
          refine Zp.i2l k_208_1 ?_
          refine Zp.lconst (lN 0) k_208_2 (by decide) ?_
          refine Zp.ldc2 (lN 9) k_208_3 (by decide) ?_
          refine Zp.calls3I vs_131 k_208_6 (Nat.le_of_ble_eq_true rfl) (Nat.le_of_ble_eq_true rfl) (c_in (zi2n (by omega)) (lN_z (by decide)) (lN_z (by decide)) ⟨_, rfl, ?_⟩)
          refine Zp.if_eqB k_208_9 (fun c_9 => absurd c_9 (by omega)) (fun c_9 => ?_)
          refine Zp.iload_n k_208_12 rfl ?_
          refine Zp.i2l k_208_13 ?_
          refine Zp.lconst (lN 0) k_208_14 (by decide) ?_
          refine Zp.ldc2 (lN 18) k_208_15 (by decide) ?_
          refine Zp.calls3I vs_131 k_208_18 (Nat.le_of_ble_eq_true rfl) (Nat.le_of_ble_eq_true rfl) (c_in (zi2n (by omega)) (lN_z (by decide)) (lN_z (by decide)) ⟨_, rfl, ?_⟩)
          refine Zp.if_neB k_208_21 (fun c_21 => ?_) (fun c_21 => absurd c_21 (by omega))
          refine Zp.aload_n k_208_26 rfl ?_
          refine Zp.getR k_208_27 rfl (zlt rfl) m_93 r_93_0 ?_
          refine Zp.bipush (nI 45) k_208_30 (by decide) ?_
          refine Zp.iald _ k_208_32 m_94 rfl (by omega) (zlt rfl) (by first | exact mp.2.2.1 | exact mp.2.2.2.1 | exact mp.2.2.2.2.1 | exact mp.2.2.2.2.2.1 | exact mp.2.2.2.2.2.2 | exact xp.1 | exact xp.2.1 | exact xp.2.2.2.1 | exact xp.2.2.1 _ (by omega) | exact xp.2.2.2.2.2 _ (by omega) | exact xp.2.2.2.2.1 _ (by omega) | exact mp.hh (by omega) (by omega) | exact mp.kk (by omega) | exact mp.2.1 _ (by omega)) ?_
          refine Zp.bipush (nI 6) k_208_33 (by decide) ?_
          refine Zp.icmp_neN k_208_35 (by omega) (by omega) (fun c_35 => ?_) (fun c_35 => (by first | exact absurd c_35 s | exact absurd s c_35))
          refine Zp.aload_n k_208_41 rfl ?_
          refine Zp.getR k_208_42 rfl (zlt rfl) m_93 r_93_0 ?_
          refine Zp.bipush (nI 46) k_208_45 (by decide) ?_
          refine Zp.iconst (nI 2) k_208_47 (by decide) ?_
          refine Zp.aload_n k_208_48 rfl ?_
          refine Zp.getR k_208_49 rfl (zlt rfl) m_93 r_93_0 ?_
          refine Zp.bipush (nI 45) k_208_52 (by decide) ?_
          refine Zp.iald _ k_208_54 m_94 rfl (by omega) (zlt rfl) xp.2.2.2.1 ?_
          refine Zp.imulN k_208_55 ?_
          refine Zp.iaddN k_208_56 ?_
          refine Zp.iload_n k_208_57 rfl ?_
          refine Zp.iast _ k_208_58 m_94 rfl (by omega) (zlt rfl) ?_
          refine Zp.aload_n k_208_59 rfl ?_
          refine Zp.getR k_208_60 rfl (zlt rfl) m_93 r_93_0 ?_
          refine Zp.bipush (nI 46) k_208_63 (by decide) ?_
          refine Zp.iconst (nI 2) k_208_65 (by decide) ?_
          refine Zp.aload_n k_208_66 rfl ?_
          refine Zp.getR k_208_67 rfl (zlt rfl) m_93 r_93_0 ?_
          refine Zp.bipush (nI 45) k_208_70 (by decide) ?_
          refine Zp.iald _ k_208_72 m_94 rfl (by omega) (zlt rfl) ((zpu_k _ _ _ (by omega)).trans xp.2.2.2.1) ?_
          refine Zp.imulN k_208_73 ?_
          refine Zp.iaddN k_208_74 ?_
          refine Zp.iconst (nI 1) k_208_75 (by decide) ?_
          refine Zp.iaddN k_208_76 ?_
          refine Zp.iload_n k_208_77 rfl ?_
          refine Zp.iast _ k_208_78 m_94 rfl (by omega) (zlt rfl) ?_
          refine Zp.aload_n k_208_79 rfl ?_
          refine Zp.getR k_208_80 rfl (zlt rfl) m_93 r_93_0 ?_
          refine Zp.bipush (nI 45) k_208_83 (by decide) ?_
          refine Zp.dup2 k_208_85 rfl rfl ?_
          refine Zp.iald _ k_208_86 m_94 rfl (by omega) (zlt rfl) ((zpu_k _ _ _ (by omega)).trans ((zpu_k _ _ _ (by omega)).trans xp.2.2.2.1)) ?_
          refine Zp.iconst (nI 1) k_208_87 (by decide) ?_
          refine Zp.iaddN k_208_88 ?_
          refine Zp.iast _ k_208_89 m_94 rfl (by omega) (zlt rfl) ?_
          refine Zp.aload_n k_208_90 rfl ?_
          refine Zp.getR k_208_91 rfl (zlt rfl) m_93 r_93_0 ?_
          refine Zp.bipush (nI 45) k_208_94 (by decide) ?_
          refine Zp.iald _ k_208_96 m_94 rfl (by omega) (zlt rfl) (zpu_s _ _ _ _) ?_
          refine Zp.iret _ k_208_97 vr_208 rfl ?_
          exact hq _ _ (pm.rest ho (xp.eadd (by omega) u1) (fun j hj => by rw [zpu_k _ _ _ (by omega), zpu_k _ _ _ (by omega), zpu_k _ _ _ (by omega)]) (fun q h _ => by rw [zpu_q _ _ _ h, zpu_q _ _ _ h, zpu_q _ _ _ h])) (fun q h => by rw [zpu_q _ _ _ (by omega), zpu_q _ _ _ (by omega), zpu_q _ _ _ (by omega)])
    · refine ⟨.int (-1), A, ho, fun I L Q pc hq => ?_, fun I L Q pm hq => ?_⟩
      · obtain ⟨⟨hp, lp, pp, ep⟩, hk, hi0, hi1, ht, hb, hf, hr, hh⟩ := id pc
        refine Zm.go [some (.ref _), some (.int _), some (.int _)] vl_108 rfl ?_
        refine Zp.iload_n k_108_0 rfl ?_
        refine Zp.iconst (nI 0) k_108_1 (by decide) ?_
        refine Zp.bipush (nI 9) k_108_2 (by decide) ?_
        refine Zp.calls3I vs_129 k_108_4 (Nat.le_of_ble_eq_true rfl) (Nat.le_of_ble_eq_true rfl) (c_isWithin rfl (nI_toInt (by omega)) (nI_toInt (by omega)) ⟨_, rfl, ?_⟩)
        refine Zp.if_eqB k_108_7 (fun c_7 => absurd c_7 (by omega)) (fun c_7 => ?_)
        refine Zp.iload_n k_108_10 rfl ?_
        refine Zp.iconst (nI 0) k_108_11 (by decide) ?_
        refine Zp.bipush (nI 18) k_108_12 (by decide) ?_
        refine Zp.calls3I vs_129 k_108_14 (Nat.le_of_ble_eq_true rfl) (Nat.le_of_ble_eq_true rfl) (c_isWithin rfl (nI_toInt (by omega)) (nI_toInt (by omega)) ⟨_, rfl, ?_⟩)
        refine Zp.if_neB k_108_17 (fun c_17 => absurd c_17 (by omega)) (fun c_17 => ?_)
        refine Zp.iconst (-1) k_108_20 (by decide) ?_
        refine Zp.iret _ k_108_21 vr_108 rfl ?_
        exact hq I pc (FrC.rf I)
      · obtain ⟨m3, ⟨mp, xp⟩, m4, ms1, ms2, ms3, mk0, mk1, mi0, mi1, mt, mb, mf, mr, mh⟩ := id pm
        refine Zm.go [some (.ref _), some (.int _), some (.int _)] vl_208 rfl ?_
        refine Zp.iload_n k_208_0 rfl ?_
        refine Zp.i2l k_208_1 ?_
        refine Zp.lconst (lN 0) k_208_2 (by decide) ?_
        refine Zp.ldc2 (lN 9) k_208_3 (by decide) ?_
        refine Zp.calls3I vs_131 k_208_6 (Nat.le_of_ble_eq_true rfl) (Nat.le_of_ble_eq_true rfl) (c_in (zi2l _) (lN_z (by decide)) (lN_z (by decide)) ⟨_, rfl, ?_⟩)
        refine Zp.if_eqB k_208_9 (fun c_9 => absurd c_9 (by omega)) (fun c_9 => ?_)
        refine Zp.iload_n k_208_12 rfl ?_
        refine Zp.i2l k_208_13 ?_
        refine Zp.lconst (lN 0) k_208_14 (by decide) ?_
        refine Zp.ldc2 (lN 18) k_208_15 (by decide) ?_
        refine Zp.calls3I vs_131 k_208_18 (Nat.le_of_ble_eq_true rfl) (Nat.le_of_ble_eq_true rfl) (c_in (zi2l _) (lN_z (by decide)) (lN_z (by decide)) ⟨_, rfl, ?_⟩)
        refine Zp.if_neB k_208_21 (fun c_21 => absurd c_21 (by omega)) (fun c_21 => ?_)
        refine Zp.iconst (-1) k_208_24 (by decide) ?_
        refine Zp.iret _ k_208_25 vr_208 rfl ?_
        first | exact hq I L pm (FrM.rf I) | exact hq I2 L pm2 (fun q hq => s2 q (by omega))
  · refine ⟨.int (-1), A, ho, fun I L Q pc hq => ?_, fun I L Q pm hq => ?_⟩
    · obtain ⟨⟨hp, lp, pp, ep⟩, hk, hi0, hi1, ht, hb, hf, hr, hh⟩ := id pc
      refine Zm.go [some (.ref _), some (.int _), some (.int _)] vl_108 rfl ?_
      refine Zp.iload_n k_108_0 rfl ?_
      refine Zp.iconst (nI 0) k_108_1 (by decide) ?_
      refine Zp.bipush (nI 9) k_108_2 (by decide) ?_
      refine Zp.calls3I vs_129 k_108_4 (Nat.le_of_ble_eq_true rfl) (Nat.le_of_ble_eq_true rfl) (c_isWithin rfl (nI_toInt (by omega)) (nI_toInt (by omega)) ⟨_, rfl, ?_⟩)
      refine Zp.if_eqB k_108_7 (fun c_7 => ?_) (fun c_7 => absurd c_7 (by omega))
      refine Zp.iconst (-1) k_108_20 (by decide) ?_
      refine Zp.iret _ k_108_21 vr_108 rfl ?_
      exact hq I pc (FrC.rf I)
    · obtain ⟨m3, ⟨mp, xp⟩, m4, ms1, ms2, ms3, mk0, mk1, mi0, mi1, mt, mb, mf, mr, mh⟩ := id pm
      refine Zm.go [some (.ref _), some (.int _), some (.int _)] vl_208 rfl ?_
      refine Zp.iload_n k_208_0 rfl ?_
      refine Zp.i2l k_208_1 ?_
      refine Zp.lconst (lN 0) k_208_2 (by decide) ?_
      refine Zp.ldc2 (lN 9) k_208_3 (by decide) ?_
      refine Zp.calls3I vs_131 k_208_6 (Nat.le_of_ble_eq_true rfl) (Nat.le_of_ble_eq_true rfl) (c_in (zi2l _) (lN_z (by decide)) (lN_z (by decide)) ⟨_, rfl, ?_⟩)
      refine Zp.if_eqB k_208_9 (fun c_9 => ?_) (fun c_9 => absurd c_9 (by omega))
      refine Zp.iconst (-1) k_208_24 (by decide) ?_
      refine Zp.iret _ k_208_25 vr_208 rfl ?_
      first | exact hq I L pm (FrM.rf I) | exact hq I2 L pm2 (fun q hq => s2 q (by omega))
theorem B_forget (ho : Ao A) : zBoth G 109 209 [.int x] A := by
  obtain ⟨⟨so, sz, sst, lo, po, eo⟩, ok0, ok1, oi0, oi1, ot, ob, of_, or_, oh⟩ := id ho
  obtain ⟨o1, o2, o3, o4, o5, o6, o7⟩ := id so
  obtain ⟨p1, p2, p3⟩ := id lo
  obtain ⟨u1, u2⟩ := id po
  obtain ⟨e1, e2⟩ := id eo
  by_cases v : 0 ≤ x.toInt ∧ x.toInt ≤ ((kE (aK A)).1 : Int)
  · obtain ⟨c, hc, rfl, ec⟩ := zin_nI (n := (kE (aK A)).1 + 1) v.1 (by omega)
    refine ⟨.int (nI (kE (aK A)).1), wK A (kS (aK A), kP (aK A), kU (aK A), (c, (kE (aK A)).2)), ho.rest po ⟨by show c ≤ 6; omega, fun i hi => e2 i (by have h7 : i < c := hi; omega)⟩, fun I L Q pc hq => ?_, fun I L Q pm hq => ?_⟩
    · obtain ⟨⟨hp, lp, pp, ep⟩, hk, hi0, hi1, ht, hb, hf, hr, hh⟩ := id pc
      refine Zm.go [some (.ref _), some (.int _), none] vl_109 rfl ?_
      refine Zp.iload_n k_109_0 rfl ?_
      refine Zp.iconst (nI 0) k_109_1 (by decide) ?_
      refine Zp.aload_n k_109_2 rfl ?_
      refine Zp.getR k_109_3 rfl (zlt rfl) m_0 r_0_0 ?_
      refine Zp.getR k_109_6 rfl (zlt rfl) m_1 r_1_3 ?_
      refine Zp.getV k_109_9 rfl (zlt rfl) m_11 ep.1 ?_
      refine Zp.calls3I vs_129 k_109_12 (Nat.le_of_ble_eq_true rfl) (Nat.le_of_ble_eq_true rfl) (c_isWithin (nI_toInt (by omega)) (nI_toInt (by omega)) (nI_toInt (by omega)) ⟨_, rfl, ?_⟩)
      refine Zp.if_neB k_109_15 (fun c_15 => ?_) (fun c_15 => absurd c_15 (by omega))
      refine Zp.aload_n k_109_20 rfl ?_
      refine Zp.getR k_109_21 rfl (zlt rfl) m_0 r_0_0 ?_
      refine Zp.getR k_109_24 rfl (zlt rfl) m_1 r_1_3 ?_
      refine Zp.getV k_109_27 rfl (zlt rfl) m_11 ep.1 ?_
      refine Zp.istore_n [some (.ref _), some (.int _), some (.int _)] k_109_30 (Nat.lt_of_lt_of_eq (zlt rfl : 2 < 3) vl_109.symm) rfl ?_
      refine Zp.aload_n k_109_31 rfl ?_
      refine Zp.getR k_109_32 rfl (zlt rfl) m_0 r_0_0 ?_
      refine Zp.getR k_109_35 rfl (zlt rfl) m_1 r_1_3 ?_
      refine Zp.iload_n k_109_38 rfl ?_
      refine Zp.putI k_109_39 rfl (zlt rfl) m_11 ?_
      refine Zp.iload_n k_109_42 rfl ?_
      refine Zp.iret _ k_109_43 vr_109 rfl ?_
      exact hq _ (pc.rest (pp.fr (zpu_q _ _ _ (by decide)) (zpu_q _ _ _ (by decide))) ⟨zpu_s _ _ _ _, fun i hi => by have h7 : i < c := hi; rw [zpu_q _ _ _ (by decide)]; exact ep.2.1 i (by omega), fun i hi => by have h7 : i < c := hi; rw [zpu_q _ _ _ (by decide)]; exact ep.2.2 i (by omega)⟩ (fun q h => zpu_q _ _ _ (by omega))) (fun q h => zpu_q _ _ _ (by omega))
    · obtain ⟨m3, ⟨mp, xp⟩, m4, ms1, ms2, ms3, mk0, mk1, mi0, mi1, mt, mb, mf, mr, mh⟩ := id pm
      refine Zm.go [some (.ref _), some (.int _)] vl_209 rfl ?_
      refine Zp.iload_n k_209_0 rfl ?_
      refine Zp.i2l k_209_1 ?_
      refine Zp.lconst (lN 0) k_209_2 (by decide) ?_
      refine Zp.aload_n k_209_3 rfl ?_
      refine Zp.getR k_209_4 rfl (zlt rfl) m_93 r_93_0 ?_
      refine Zp.bipush (nI 45) k_209_7 (by decide) ?_
      refine Zp.iald _ k_209_9 m_94 rfl (by omega) (zlt rfl) (by first | exact mp.2.2.1 | exact mp.2.2.2.1 | exact mp.2.2.2.2.1 | exact mp.2.2.2.2.2.1 | exact mp.2.2.2.2.2.2 | exact xp.1 | exact xp.2.1 | exact xp.2.2.2.1 | exact xp.2.2.1 _ (by omega) | exact xp.2.2.2.2.2 _ (by omega) | exact xp.2.2.2.2.1 _ (by omega) | exact mp.hh (by omega) (by omega) | exact mp.kk (by omega) | exact mp.2.1 _ (by omega)) ?_
      refine Zp.i2l k_209_10 ?_
      refine Zp.calls3I vs_131 k_209_11 (Nat.le_of_ble_eq_true rfl) (Nat.le_of_ble_eq_true rfl) (c_in (zi2n (by omega)) (lN_z (by decide)) (zi2n (by omega)) ⟨_, rfl, ?_⟩)
      refine Zp.if_eqB k_209_14 (fun c_14 => absurd c_14 (by omega)) (fun c_14 => ?_)
      refine Zp.aload_n k_209_17 rfl ?_
      refine Zp.bipush (nI 45) k_209_18 (by decide) ?_
      refine Zp.iload_n k_209_20 rfl ?_
      refine Zp.callv2I v_177 k_209_21 m_93 (Nat.le_of_ble_eq_true rfl) (Nat.le_of_ble_eq_true rfl) (c_becomesM (by omega) ⟨_, rfl, ?_⟩)
      refine Zp.goto k_209_24 ?_
      refine Zp.iret _ k_209_28 vr_209 rfl ?_
      exact zqe (hq _ _ (pm.rest ho (xp.u45 (by omega) u1) (fun j hj => zpu_k _ _ _ (by omega)) (fun q h _ => zpu_q _ _ _ h)) (fun q h => zpu_q _ _ _ (by omega))) xp.2.2.2.1
  · refine ⟨.int (-1), A, ho, fun I L Q pc hq => ?_, fun I L Q pm hq => ?_⟩
    · obtain ⟨⟨hp, lp, pp, ep⟩, hk, hi0, hi1, ht, hb, hf, hr, hh⟩ := id pc
      refine Zm.go [some (.ref _), some (.int _), none] vl_109 rfl ?_
      refine Zp.iload_n k_109_0 rfl ?_
      refine Zp.iconst (nI 0) k_109_1 (by decide) ?_
      refine Zp.aload_n k_109_2 rfl ?_
      refine Zp.getR k_109_3 rfl (zlt rfl) m_0 r_0_0 ?_
      refine Zp.getR k_109_6 rfl (zlt rfl) m_1 r_1_3 ?_
      refine Zp.getV k_109_9 rfl (zlt rfl) m_11 ep.1 ?_
      refine Zp.calls3I vs_129 k_109_12 (Nat.le_of_ble_eq_true rfl) (Nat.le_of_ble_eq_true rfl) (c_isWithin rfl (nI_toInt (by omega)) (nI_toInt (by omega)) ⟨_, rfl, ?_⟩)
      refine Zp.if_neB k_109_15 (fun c_15 => absurd c_15 (by omega)) (fun c_15 => ?_)
      refine Zp.iconst (-1) k_109_18 (by decide) ?_
      refine Zp.iret _ k_109_19 vr_109 rfl ?_
      exact hq I pc (FrC.rf I)
    · obtain ⟨m3, ⟨mp, xp⟩, m4, ms1, ms2, ms3, mk0, mk1, mi0, mi1, mt, mb, mf, mr, mh⟩ := id pm
      refine Zm.go [some (.ref _), some (.int _)] vl_209 rfl ?_
      refine Zp.iload_n k_209_0 rfl ?_
      refine Zp.i2l k_209_1 ?_
      refine Zp.lconst (lN 0) k_209_2 (by decide) ?_
      refine Zp.aload_n k_209_3 rfl ?_
      refine Zp.getR k_209_4 rfl (zlt rfl) m_93 r_93_0 ?_
      refine Zp.bipush (nI 45) k_209_7 (by decide) ?_
      refine Zp.iald _ k_209_9 m_94 rfl (by omega) (zlt rfl) (by first | exact mp.2.2.1 | exact mp.2.2.2.1 | exact mp.2.2.2.2.1 | exact mp.2.2.2.2.2.1 | exact mp.2.2.2.2.2.2 | exact xp.1 | exact xp.2.1 | exact xp.2.2.2.1 | exact xp.2.2.1 _ (by omega) | exact xp.2.2.2.2.2 _ (by omega) | exact xp.2.2.2.2.1 _ (by omega) | exact mp.hh (by omega) (by omega) | exact mp.kk (by omega) | exact mp.2.1 _ (by omega)) ?_
      refine Zp.i2l k_209_10 ?_
      refine Zp.calls3I vs_131 k_209_11 (Nat.le_of_ble_eq_true rfl) (Nat.le_of_ble_eq_true rfl) (c_in (zi2l _) (lN_z (by decide)) (zi2n (by omega)) ⟨_, rfl, ?_⟩)
      refine Zp.if_eqB k_209_14 (fun c_14 => ?_) (fun c_14 => absurd c_14 (by omega))
      refine Zp.iconst (-1) k_209_27 (by decide) ?_
      refine Zp.iret _ k_209_28 vr_209 rfl ?_
      first | exact hq I L pm (FrM.rf I) | exact hq I2 L pm2 (fun q hq => s2 q (by omega))
theorem B_torn (ho : Ao A) : zBoth G 127 227 [] A := by
  refine ⟨.int (nI (aR A)), A, ho, fun I L Q pc hq => ?_, fun I L Q pm hq => ?_⟩
  · obtain ⟨⟨hp, lp, pp, ep⟩, hk, hi0, hi1, ht, hb, hf, hr, hh⟩ := id pc
    refine Zm.go [some (.ref _)] vl_127 rfl ?_
    refine Zp.aload_n k_127_0 rfl ?_
    refine Zp.getV k_127_1 rfl (zlt rfl) m_0 hr ?_
    refine Zp.iret _ k_127_4 vr_127 rfl ?_
    exact hq I pc (FrC.rf I)
  · obtain ⟨m3, ⟨mp, xp⟩, m4, ms1, ms2, ms3, mk0, mk1, mi0, mi1, mt, mb, mf, mr, mh⟩ := id pm
    refine Zm.go [some (.ref _)] vl_227 rfl ?_
    refine Zp.aload_n k_227_0 rfl ?_
    refine Zp.getV k_227_1 rfl (zlt rfl) m_93 mr ?_
    refine Zp.iret _ k_227_4 vr_227 rfl ?_
    first | exact hq I L pm (FrM.rf I) | exact hq I2 L pm2 (fun q hq => s2 q (by omega))
end MORE
