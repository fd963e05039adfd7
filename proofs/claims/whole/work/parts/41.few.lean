/-! THE FEWEST: both sides -/
theorem fwN_null {S : zSo} (hP : np (sn S) = 0) (h : fwN S 1 = none) : ∀ k, fwN S (1 + k) = none
  | 0 => h
  | k + 1 => by
    have h0 : fwR S (1 + k) (np (sn S) ^ (1 + k)) = none := by
      rw [hP, Nat.zero_pow (show 0 < 1 + k by omega)]
      rfl
    exact fwN_no (fwN_null hP h k) h0
section FEW0
variable {G : zG} {A : zQs} {I : zI} {L : zJ} {Q : zP}
theorem c_fewLoopM {c : Nat} (ho : Ao A)
    (hyes : ∀ m i I2, fwN (kS (aK A)) 5 = some (m, i) → m ≤ 4 → (0 < m → 0 < np (sn (kS (aK A)))) → i < 2 ^ 20 → PicM A I2 → FrM I I2 → Zp G 200 76 [some (.ref 93), some (.int (nI c)), some (.int (nI m)), some (.int (nI i))] [] I2 L Q)
    (hno : ∀ I2, fwN (kS (aK A)) 5 = none → PicM A I2 → FrM I I2 → Zp G 200 120 [some (.ref 93), some (.int (nI c)), none, none] [] I2 L Q) :
    ∀ k n (I1 : zI), n + k = 5 → fwN (kS (aK A)) n = none → PicM A I1 → FrM I I1 → (∀ j, j < np (sn (kS (aK A))) → I1 105 j = nI (pt (sn (kS (aK A))) j)) → Zp G 200 26 [some (.ref 93), some (.int (nI c)), some (.int (nI n)), none] [] I1 L Q := by
  obtain ⟨⟨so, sz, sst, lo, po, eo⟩, ok0, ok1, oi0, oi1, ot, ob, of_, or_, oh⟩ := id ho
  obtain ⟨o1, o2, o3, o4, o5, o6, o7⟩ := id so
  obtain ⟨p1, p2, p3⟩ := id lo
  obtain ⟨u1, u2⟩ := id po
  obtain ⟨e1, e2⟩ := id eo
  have z3 := (cn_0 (sn (kS (aK A))) (by omega)).2.2
  intro k
  induction k with
  | zero =>
    intro n I1 hn hf pm1 f1 h105
    have e : n = 5 := by omega
    subst e
    have m3 : I1 93 3 = nI (sn (kS (aK A))) := pm1.1
    refine Zp.iload_n k_200_26 rfl ?_
    refine Zp.aload_n k_200_27 rfl ?_
    refine Zp.callv0I v_193 k_200_28 m_93 (Nat.le_of_ble_eq_true rfl) (Nat.le_of_ble_eq_true rfl) (c_pairsM m3 (by omega) ⟨_, rfl, ?_⟩)
    refine Zp.if_neN k_200_31 (by omega) (fun c_31 => ?_) (fun c_31 => ?_)
    · refine Zp.iconst (nI 4) k_200_38 (by decide) ?_
      refine Zp.icmp_gtN k_200_39 (by omega) (by omega) (fun c_39 => ?_) (fun c_39 => absurd c_39 (by omega))
      exact Zp.locs _ (zle_sub (by simp [zle])) (hno I1 hf pm1 f1)
    · refine Zp.iconst (nI 0) k_200_34 (by decide) ?_
      refine Zp.goto k_200_35 ?_
      refine Zp.icmp_gtN k_200_39 (by omega) (by omega) (fun c_39 => ?_) (fun c_39 => absurd c_39 (by omega))
      exact Zp.locs _ (zle_sub (by simp [zle])) (hno I1 hf pm1 f1)
  | succ k ih =>
    intro n I1 hn hf pm1 f1 h105
    have m3 : I1 93 3 = nI (sn (kS (aK A))) := pm1.1
    have hpw := pw_le z3 (show n ≤ 4 by omega)
    have rows : (0 < n → 0 < np (sn (kS (aK A)))) → ∀ l i (I2 : zI), i + l = np (sn (kS (aK A))) ^ n → fwR (kS (aK A)) n i = none → PicM A I2 → FrM I I2 → (∀ j, j < np (sn (kS (aK A))) → I2 105 j = nI (pt (sn (kS (aK A))) j)) → Zp G 200 44 [some (.ref 93), some (.int (nI c)), some (.int (nI n)), some (.int (nI i))] [] I2 L Q := by
      intro hP l
      induction l with
      | zero =>
        intro i I2 hi hr pm2 f2 g105
        have e : i = np (sn (kS (aK A))) ^ n := by omega
        subst e
        have m32 : I2 93 3 = nI (sn (kS (aK A))) := pm2.1
        refine Zp.iload_n k_200_44 rfl ?_
        refine Zp.aload_n k_200_45 rfl ?_
        refine Zp.iload_n k_200_46 rfl ?_
        refine Zp.callv1I v_195 k_200_47 m_93 (Nat.le_of_ble_eq_true rfl) (Nat.le_of_ble_eq_true rfl) (c_rowsOfM m32 (by omega) (by omega) ⟨_, rfl, ?_⟩)
        refine Zp.icmp_geN k_200_50 (by omega) (by omega) (fun c_50 => ?_) (fun c_50 => absurd c_50 (by omega))
        refine Zp.iinc (nI (_ + 1)) [some (.ref _), some (.int _), some (.int _), some (.int _)] k_200_114 rfl (nI_1 _) (Nat.lt_of_lt_of_eq (zlt rfl : 2 < 4) vl_200.symm) rfl ?_
        refine Zp.goto k_200_117 ?_
        exact Zp.locs _ (zle_sub (by simp [zle])) (ih (n + 1) I2 (by omega) (fwN_no hf hr) pm2 f2 g105)
      | succ l ih2 =>
        intro i I2 hi hr pm2 f2 g105
        have m32 : I2 93 3 = nI (sn (kS (aK A))) := pm2.1
        have d1 := (rT_o so n i).2.2.2.1
        have d2 := rT_n (kS (aK A)) n i
        refine Zp.iload_n k_200_44 rfl ?_
        refine Zp.aload_n k_200_45 rfl ?_
        refine Zp.iload_n k_200_46 rfl ?_
        refine Zp.callv1I v_195 k_200_47 m_93 (Nat.le_of_ble_eq_true rfl) (Nat.le_of_ble_eq_true rfl) (c_rowsOfM m32 (by omega) (by omega) ⟨_, rfl, ?_⟩)
        refine Zp.icmp_geN k_200_50 (by omega) (by omega) (fun c_50 => absurd c_50 (by omega)) (fun c_50 => ?_)
        refine Zp.aload_n k_200_53 rfl ?_
        refine Zp.iload_n k_200_54 rfl ?_
        refine Zp.iload_n k_200_55 rfl ?_
        refine Zp.callv2V v_197 k_200_56 m_93 (Nat.le_of_ble_eq_true rfl) (Nat.le_of_ble_eq_true rfl) (c_stirsRowM pm2 ho g105 (by omega) hP (by omega) (fun I3 pm3 mq f3 => ⟨rfl, ?_⟩))
        refine Zp.aload_n k_200_59 rfl ?_
        refine Zp.getR k_200_60 rfl (zlt rfl) m_93 r_93_1 ?_
        refine Zp.bipush (nI 33) k_200_63 (by decide) ?_
        refine Zp.iald _ k_200_65 m_95 rfl (by omega) (zlt rfl) mq.2.2.2.2.2.1 ?_
        refine Zp.aload_n k_200_66 rfl ?_
        refine Zp.getR k_200_67 rfl (zlt rfl) m_93 r_93_1 ?_
        refine Zp.bipush (nI 30) k_200_70 (by decide) ?_
        refine Zp.iald _ k_200_72 m_95 rfl (by omega) (zlt rfl) mq.2.2.1 ?_
        refine Zp.icmp_ltN k_200_73 (by omega) (by omega) (fun c_73 => ?_) (fun c_73 => ?_)
        · refine Zp.iinc (nI (_ + 1)) [some (.ref _), some (.int _), some (.int _), some (.int _)] k_200_108 rfl (nI_1 _) (Nat.lt_of_lt_of_eq (zlt rfl : 3 < 4) vl_200.symm) rfl ?_
          refine Zp.goto k_200_111 ?_
          exact ih2 (i + 1) I3 (by omega) (fwR_no hr (by omega)) pm3 (fun q h => (f3 q (by omega)).trans (f2 q h)) (fun j hj => by rw [f3 105 (by decide)]; exact g105 j hj)
        · have y1 := fwR_st (fwR_yes hr (by omega)) l
          rw [show i + 1 + l = np (sn (kS (aK A))) ^ n by omega] at y1
          have y2 := fwN_st (fwN_yes hf y1) k
          rw [show n + 1 + k = 5 by omega] at y2
          exact hyes n i I3 y2 (by omega) hP (by omega) pm3 (fun q h => (f3 q (by omega)).trans (f2 q h))
    have go : (0 < n → 0 < np (sn (kS (aK A)))) → Zp G 200 42 [some (.ref 93), some (.int (nI c)), some (.int (nI n)), none] [] I1 L Q := by
      intro hP
      refine Zp.iconst (nI 0) k_200_42 (by decide) ?_
      refine Zp.istore_n [some (.ref _), some (.int _), some (.int _), some (.int _)] k_200_43 (Nat.lt_of_lt_of_eq (zlt rfl : 3 < 4) vl_200.symm) rfl ?_
      exact rows hP (np (sn (kS (aK A))) ^ n) 0 I1 (by omega) rfl pm1 f1 h105
    have out : np (sn (kS (aK A))) = 0 → 0 < n → Zp G 200 120 [some (.ref 93), some (.int (nI c)), some (.int (nI n)), none] [] I1 L Q := by
      intro hP h0
      have h1 : fwN (kS (aK A)) 1 = none := by
        cases h1 : fwN (kS (aK A)) 1 with
        | none => rfl
        | some x =>
          have h2 := fwN_st h1 (n - 1)
          rw [show 1 + (n - 1) = n by omega, hf] at h2
          exact absurd h2 (by simp)
      exact Zp.locs _ (zle_sub (by simp [zle])) (hno I1 (fwN_null hP h1 4) pm1 f1)
    refine Zp.iload_n k_200_26 rfl ?_
    refine Zp.aload_n k_200_27 rfl ?_
    refine Zp.callv0I v_193 k_200_28 m_93 (Nat.le_of_ble_eq_true rfl) (Nat.le_of_ble_eq_true rfl) (c_pairsM m3 (by omega) ⟨_, rfl, ?_⟩)
    refine Zp.if_neN k_200_31 (by omega) (fun c_31 => ?_) (fun c_31 => ?_)
    · refine Zp.iconst (nI 4) k_200_38 (by decide) ?_
      refine Zp.icmp_gtN k_200_39 (by omega) (by omega) (fun c_39 => ?_) (fun c_39 => ?_)
      · first | exact out (by omega) (by omega) | (exfalso; omega)
      · first | exact go (fun _ => by omega) | (exfalso; omega)
    · refine Zp.iconst (nI 0) k_200_34 (by decide) ?_
      refine Zp.goto k_200_35 ?_
      refine Zp.icmp_gtN k_200_39 (by omega) (by omega) (fun c_39 => ?_) (fun c_39 => ?_)
      · first | exact out (by omega) (by omega) | (exfalso; omega)
      · first | exact go (fun _ => by omega) | (exfalso; omega)
end FEW0
section FEW1
variable {G : zG} {A : zQs} {x y : Int32}
def fwV (S : zSo) (c : Nat) : Int32 := match fwN S 5 with
  | none => -4
  | some (m, i) => if c = 0 then nI m else if c - 10 < m then nI (rwP (sn S) m i (c - 10)) else -4
theorem fwV_n {S : zSo} {c : Nat} (h : fwN S 5 = none) : fwV S c = -4 := by unfold fwV; rw [h]
theorem fwV_s {S : zSo} {c m i : Nat} (h : fwN S 5 = some (m, i)) : fwV S c = if c = 0 then nI m else if c - 10 < m then nI (rwP (sn S) m i (c - 10)) else -4 := by unfold fwV; rw [h]
theorem c_fewC {G : zG} {I : zI} {L : zJ} {Q : zP} {c : Nat} (pc : PicC A I) (ho : Ao A) (hc : c < 100) (h10 : c ≠ 0 → 10 ≤ c) (hq : ∀ I', (∀ q, q < 34 ∨ 53 < q → I' q = I q) → Q (some (.int (fwV (kS (aK A)) c))) I' L) : Zp G 101 13 [some (.ref 0), some (.int (nI c))] [] I L Q := by
  obtain ⟨⟨so, sz, sst, lo, po, eo⟩, ok0, ok1, oi0, oi1, ot, ob, of_, or_, oh⟩ := id ho
  obtain ⟨o1, o2, o3, o4, o5, o6, o7⟩ := id so
  obtain ⟨p1, p2, p3⟩ := id lo
  obtain ⟨u1, u2⟩ := id po
  obtain ⟨e1, e2⟩ := id eo
  obtain ⟨⟨hp, lp, pp, ep⟩, hk, hi0, hi1, ht, hb, hf, hr, hh⟩ := id pc
  have yes : ∀ m i (I2 : zI), fwN (kS (aK A)) 5 = some (m, i) → Rf I2 (kS (aK A)) m i → (∀ q, q < 34 ∨ 53 < q → I2 q = I q) → Zp G 101 27 [some (.ref 0), some (.int (nI c))] [.int (nI 1)] I2 L Q := by
    intro m i I2 hf rf f2
    have hm : m < 5 := fwN_lt 5 (m, i) hf
    have hq1 := hq I2 f2
    rw [fwV_s hf] at hq1
    refine Zp.if_neN k_101_27 (by omega) (fun _ => ?_) (fun c => absurd c (by decide))
    refine Zp.iload_n k_101_33 rfl ?_
    refine Zp.if_neN k_101_34 (by omega) (fun c_34 => ?_) (fun c_34 => ?_)
    · refine Zp.aload_n k_101_47 rfl ?_
      refine Zp.getR k_101_48 rfl (zlt rfl) m_0 r_0_6 ?_
      refine Zp.iload_n k_101_51 rfl ?_
      refine Zp.bipush (nI 10) k_101_52 (by decide) ?_
      refine Zp.isubN k_101_54 (by omega) ?_
      refine Zp.callv1I v_29 k_101_55 m_34 (Nat.le_of_ble_eq_true rfl) (Nat.le_of_ble_eq_true rfl) (c_foundPair rf.2.2.1 (by omega) rf.2.2.2 (fun j hj hl => ⟨_, rfl, ?_⟩) (fun hno => ⟨_, rfl, ?_⟩))
      · refine Zp.iret _ k_101_58 vr_101 rfl ?_
        have e1 := nI_toInt (n := c - 10) (by omega)
        have e2 : j = c - 10 := by omega
        subst e2
        rw [if_neg c_34, if_pos hl] at hq1
        exact hq1
      · refine Zp.iret _ k_101_58 vr_101 rfl ?_
        have e1 := nI_toInt (n := c - 10) (by omega)
        rw [if_neg c_34, if_neg (by omega)] at hq1
        exact hq1
    · refine Zp.aload_n k_101_37 rfl ?_
      refine Zp.getR k_101_38 rfl (zlt rfl) m_0 r_0_6 ?_
      refine Zp.getV k_101_41 rfl (zlt rfl) m_34 rf.2.2.1 ?_
      have e0 : c = 0 := c_34
      rw [if_pos e0] at hq1
      refine Zp.goto k_101_44 ?_
      refine Zp.iret _ k_101_58 vr_101 rfl ?_
      exact hq1
  refine Zp.aload_n k_101_13 rfl ?_
  refine Zp.getR k_101_14 rfl (zlt rfl) m_0 r_0_6 ?_
  refine Zp.aload_n k_101_17 rfl ?_
  refine Zp.getR k_101_18 rfl (zlt rfl) m_0 r_0_0 ?_
  refine Zp.getR k_101_21 rfl (zlt rfl) m_1 r_1_0 ?_
  refine Zp.callv1I v_28 k_101_24 m_34 (Nat.le_of_ble_eq_true rfl) (Nat.le_of_ble_eq_true rfl) (c_seekFewest hp so (by omega) (fun h I2 f2 => ⟨_, rfl, ?_⟩) (fun m i I2 h rf f2 => ⟨_, rfl, yes m i I2 h rf f2⟩))
  have hq1 := hq I2 f2
  rw [fwV_n h] at hq1
  refine Zp.if_neN k_101_27 (by omega) (fun c => absurd c (by decide)) (fun _ => ?_)
  refine Zp.bipush (-4) k_101_30 (by decide) ?_
  refine Zp.iret _ k_101_32 vr_101 rfl ?_
  exact hq1
theorem c_fewM {G : zG} {I : zI} {L : zJ} {Q : zP} {c : Nat} (pm : PicM A I) (ho : Ao A) (hc : c < 100) (h10 : c ≠ 0 → 10 ≤ c) (hq : ∀ I', PicM A I' → FrM I I' → Q (some (.int (fwV (kS (aK A)) c))) I' L) : Zp G 200 20 [some (.ref 93), some (.int (nI c)), none, none] [] I L Q := by
  obtain ⟨⟨so, sz, sst, lo, po, eo⟩, ok0, ok1, oi0, oi1, ot, ob, of_, or_, oh⟩ := id ho
  obtain ⟨o1, o2, o3, o4, o5, o6, o7⟩ := id so
  obtain ⟨p1, p2, p3⟩ := id lo
  obtain ⟨u1, u2⟩ := id po
  obtain ⟨e1, e2⟩ := id eo
  have m3 : I 93 3 = nI (sn (kS (aK A))) := pm.1
  have yes : ∀ m i I2, fwN (kS (aK A)) 5 = some (m, i) → m ≤ 4 → (0 < m → 0 < np (sn (kS (aK A)))) → i < 2 ^ 20 → PicM A I2 → FrM I I2 → Zp G 200 76 [some (.ref 93), some (.int (nI c)), some (.int (nI m)), some (.int (nI i))] [] I2 L Q := by
    intro m i I2 hf hm hP hi pm2 f2
    have m32 : I2 93 3 = nI (sn (kS (aK A))) := pm2.1
    have hq1 := hq I2 pm2 f2
    rw [fwV_s hf] at hq1
    refine Zp.iload_n k_200_76 rfl ?_
    refine Zp.if_neN k_200_77 (by omega) (fun c_77 => ?_) (fun c_77 => ?_)
    · refine Zp.iload_n k_200_84 rfl ?_
      refine Zp.bipush (nI 10) k_200_85 (by decide) ?_
      refine Zp.isubN k_200_87 (by omega) ?_
      refine Zp.iload_n k_200_88 rfl ?_
      refine Zp.icmp_geN k_200_89 (by omega) (by omega) (fun c_89 => ?_) (fun c_89 => ?_)
      · refine Zp.bipush (-4) k_200_105 (by decide) ?_
        refine Zp.iret _ k_200_107 vr_200 rfl ?_
        first | (rw [if_pos c_77] at hq1; exact hq1) | (rw [if_neg c_77, if_pos (by omega)] at hq1; exact hq1) | (rw [if_neg c_77, if_neg (by omega)] at hq1; exact hq1)
      · refine Zp.aload_n k_200_92 rfl ?_
        refine Zp.iload_n k_200_93 rfl ?_
        refine Zp.iload_n k_200_94 rfl ?_
        refine Zp.iload_n k_200_95 rfl ?_
        refine Zp.bipush (nI 10) k_200_96 (by decide) ?_
        refine Zp.isubN k_200_98 (by omega) ?_
        refine Zp.callv3I v_196 k_200_99 m_93 (Nat.le_of_ble_eq_true rfl) (Nat.le_of_ble_eq_true rfl) (c_pairInM m32 (by omega) hm (by omega) (hP (by omega)) (by omega) ⟨_, rfl, ?_⟩)
        refine Zp.goto k_200_102 ?_
        refine Zp.iret _ k_200_107 vr_200 rfl ?_
        first | (rw [if_pos c_77] at hq1; exact hq1) | (rw [if_neg c_77, if_pos (by omega)] at hq1; exact hq1) | (rw [if_neg c_77, if_neg (by omega)] at hq1; exact hq1)
    · refine Zp.iload_n k_200_80 rfl ?_
      refine Zp.goto k_200_81 ?_
      refine Zp.iret _ k_200_107 vr_200 rfl ?_
      first | (rw [if_pos c_77] at hq1; exact hq1) | (rw [if_neg c_77, if_pos (by omega)] at hq1; exact hq1) | (rw [if_neg c_77, if_neg (by omega)] at hq1; exact hq1)
  have no : ∀ I2, fwN (kS (aK A)) 5 = none → PicM A I2 → FrM I I2 → Zp G 200 120 [some (.ref 93), some (.int (nI c)), none, none] [] I2 L Q := by
    intro I2 hf pm2 f2
    have hq1 := hq I2 pm2 f2
    rw [fwV_n hf] at hq1
    refine Zp.bipush (-4) k_200_120 (by decide) ?_
    refine Zp.iret _ k_200_122 vr_200 rfl ?_
    exact hq1
  refine Zp.aload_n k_200_20 rfl ?_
  refine Zp.callv0V v_198 k_200_21 m_93 (Nat.le_of_ble_eq_true rfl) (Nat.le_of_ble_eq_true rfl) (c_findPairsM m3 (by omega) (fun I1 g1 g2 => ⟨rfl, ?_⟩))
  refine Zp.iconst (nI 0) k_200_24 (by decide) ?_
  refine Zp.istore_n [some (.ref _), some (.int _), some (.int _), none] k_200_25 (Nat.lt_of_lt_of_eq (zlt rfl : 2 < 4) vl_200.symm) rfl ?_
  exact c_fewLoopM ho yes no 5 0 I1 (by omega) rfl (pm.fr (by rw [g2 93 (by decide)]) (by rw [g2 93 (by decide)]) (by rw [g2 93 (by decide)]) (by rw [g2 93 (by decide)]) (by rw [g2 93 (by decide)]) (fun q h => g2 q (by omega))) (fun q h => g2 q (by omega)) g1
theorem B_few (ho : Ao A) : zBoth G 101 200 [.int x] A := by
  obtain ⟨⟨so, sz, sst, lo, po, eo⟩, ok0, ok1, oi0, oi1, ot, ob, of_, or_, oh⟩ := id ho
  obtain ⟨o1, o2, o3, o4, o5, o6, o7⟩ := id so
  obtain ⟨p1, p2, p3⟩ := id lo
  obtain ⟨u1, u2⟩ := id po
  obtain ⟨e1, e2⟩ := id eo
  by_cases v : x.toInt = 0
  · obtain ⟨c, hc, rfl, ec⟩ := zin_nI (n := 1) (x := x) (by omega) (by omega)
    refine ⟨.int (fwV (kS (aK A)) c), A, ho, fun I L Q pc hq => ?_, fun I L Q pm hq => ?_⟩
    · obtain ⟨⟨hp, lp, pp, ep⟩, hk, hi0, hi1, ht, hb, hf, hr, hh⟩ := id pc
      refine Zm.go [some (.ref _), some (.int _)] vl_101 rfl ?_
      refine Zp.iload_n k_101_0 rfl ?_
      refine Zp.if_eqN k_101_1 (by omega) (fun c_1 => ?_) (fun c_1 => absurd c_1 (by omega))
      exact c_fewC pc ho (by omega) (fun h => absurd h (by omega)) (fun I2 f2 => hq I2 (pc.row_ f2) (fun q h => f2 q (by omega)))
    · obtain ⟨m3, ⟨mp, xp⟩, m4, ms1, ms2, ms3, mk0, mk1, mi0, mi1, mt, mb, mf, mr, mh⟩ := id pm
      refine Zm.go [some (.ref _), some (.int _), none, none] vl_200 rfl ?_
      refine Zp.iload_n k_200_0 rfl ?_
      refine Zp.if_eqN k_200_1 (by omega) (fun c_1 => ?_) (fun c_1 => absurd c_1 (by omega))
      exact c_fewM pm ho (by omega) (fun h => absurd h (by omega)) (fun I2 pm2 f2 => hq I2 L pm2 f2)
  · by_cases w : 10 ≤ x.toInt ∧ x.toInt ≤ 13
    · obtain ⟨c, hc, rfl, ec⟩ := zin_nI (n := 14) (x := x) (by omega) (by omega)
      refine ⟨.int (fwV (kS (aK A)) c), A, ho, fun I L Q pc hq => ?_, fun I L Q pm hq => ?_⟩
      · obtain ⟨⟨hp, lp, pp, ep⟩, hk, hi0, hi1, ht, hb, hf, hr, hh⟩ := id pc
        refine Zm.go [some (.ref _), some (.int _)] vl_101 rfl ?_
        refine Zp.iload_n k_101_0 rfl ?_
        refine Zp.if_eqN k_101_1 (by omega) (fun c_1 => absurd c_1 (by omega)) (fun c_1 => ?_)
        refine Zp.iload_n k_101_4 rfl ?_
        refine Zp.calls1I vs_102 k_101_5 (Nat.le_of_ble_eq_true rfl) (Nat.le_of_ble_eq_true rfl) (c_asks (nI_toInt (by omega)) ⟨_, rfl, ?_⟩)
        refine Zp.if_neB k_101_8 (fun c_8 => ?_) (fun c_8 => absurd c_8 (by omega))
        exact c_fewC pc ho (by omega) (fun h => by omega) (fun I2 f2 => hq I2 (pc.row_ f2) (fun q h => f2 q (by omega)))
      · obtain ⟨m3, ⟨mp, xp⟩, m4, ms1, ms2, ms3, mk0, mk1, mi0, mi1, mt, mb, mf, mr, mh⟩ := id pm
        refine Zm.go [some (.ref _), some (.int _), none, none] vl_200 rfl ?_
        refine Zp.iload_n k_200_0 rfl ?_
        refine Zp.if_eqN k_200_1 (by omega) (fun c_1 => absurd c_1 (by omega)) (fun c_1 => ?_)
        refine Zp.iload_n k_200_4 rfl ?_
        refine Zp.i2l k_200_5 ?_
        refine Zp.ldc2 (lN 10) k_200_6 (by decide) ?_
        refine Zp.ldc2 (lN 13) k_200_9 (by decide) ?_
        refine Zp.calls3I vs_131 k_200_12 (Nat.le_of_ble_eq_true rfl) (Nat.le_of_ble_eq_true rfl) (c_in (zi2n (by omega)) (lN_z (by decide)) (lN_z (by decide)) ⟨_, rfl, ?_⟩)
        refine Zp.if_neB k_200_15 (fun c_15 => ?_) (fun c_15 => absurd c_15 (by omega))
        exact c_fewM pm ho (by omega) (fun h => by omega) (fun I2 pm2 f2 => hq I2 L pm2 f2)
    · refine ⟨.int (-1), A, ho, fun I L Q pc hq => ?_, fun I L Q pm hq => ?_⟩
      · obtain ⟨⟨hp, lp, pp, ep⟩, hk, hi0, hi1, ht, hb, hf, hr, hh⟩ := id pc
        refine Zm.go [some (.ref _), some (.int _)] vl_101 rfl ?_
        refine Zp.iload_n k_101_0 rfl ?_
        refine Zp.if_eqZ _ k_101_1 rfl (fun c_1 => absurd c_1 (by omega)) (fun c_1 => ?_)
        refine Zp.iload_n k_101_4 rfl ?_
        refine Zp.calls1I vs_102 k_101_5 (Nat.le_of_ble_eq_true rfl) (Nat.le_of_ble_eq_true rfl) (c_asks rfl ⟨_, rfl, ?_⟩)
        refine Zp.if_neB k_101_8 (fun c_8 => absurd c_8 (by omega)) (fun c_8 => ?_)
        refine Zp.iconst (-1) k_101_11 (by decide) ?_
        refine Zp.iret _ k_101_12 vr_101 rfl ?_
        exact hq I pc (FrC.rf I)
      · obtain ⟨m3, ⟨mp, xp⟩, m4, ms1, ms2, ms3, mk0, mk1, mi0, mi1, mt, mb, mf, mr, mh⟩ := id pm
        refine Zm.go [some (.ref _), some (.int _), none, none] vl_200 rfl ?_
        refine Zp.iload_n k_200_0 rfl ?_
        refine Zp.if_eqZ _ k_200_1 rfl (fun c_1 => absurd c_1 (by omega)) (fun c_1 => ?_)
        refine Zp.iload_n k_200_4 rfl ?_
        refine Zp.i2l k_200_5 ?_
        refine Zp.ldc2 (lN 10) k_200_6 (by decide) ?_
        refine Zp.ldc2 (lN 13) k_200_9 (by decide) ?_
        refine Zp.calls3I vs_131 k_200_12 (Nat.le_of_ble_eq_true rfl) (Nat.le_of_ble_eq_true rfl) (c_in (zi2l _) (lN_z (by decide)) (lN_z (by decide)) ⟨_, rfl, ?_⟩)
        refine Zp.if_neB k_200_15 (fun c_15 => absurd c_15 (by omega)) (fun c_15 => ?_)
        refine Zp.iconst (-1) k_200_18 (by decide) ?_
        refine Zp.iret _ k_200_19 vr_200 rfl ?_
        first | exact hq I L pm (FrM.rf I) | exact hq I2 L pm2 (fun q hq => s2 q (by omega))
end FEW1
