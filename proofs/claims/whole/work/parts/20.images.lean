/-! IMAGES AND SHEETS -/
def Ka (h : Nat) : Prop := M0[h]? = some (0, 0) ∧ (h, 0, h + 1) ∈ R0 ∧ (h, 1, h + 4) ∈ R0 ∧ (h, 2, h + 8) ∈ R0 ∧ (h, 3, h + 10) ∈ R0 ∧ Sa (h + 1) ∧ La (h + 4) ∧ Pa (h + 8) ∧ Ea (h + 10)
theorem ka_1 : Ka 1 := ⟨m_1, r_1_0, r_1_1, r_1_2, r_1_3, sa_2, la_5, pa_9, ea_11⟩
theorem ka_16 : Ka 16 := ⟨m_16, r_16_0, r_16_1, r_16_2, r_16_3, sa_17, la_20, pa_24, ea_26⟩
theorem ka_59 : Ka 59 := ⟨m_59, r_59_0, r_59_1, r_59_2, r_59_3, sa_60, la_63, pa_67, ea_69⟩
theorem ka_72 : Ka 72 := ⟨m_72, r_72_0, r_72_1, r_72_2, r_72_3, sa_73, la_76, pa_80, ea_82⟩
def w0 (A : zQs) (K : zKi) : zQs := (aK A, K, a1 A, 1, ak1 A, A.2.2.2.2.2)
def w1 (A : zQs) (K : zKi) : zQs := (aK A, a0 A, K, ak0 A, 1, A.2.2.2.2.2)
def wH (A : zQs) (k : Nat) (s : zSh) : zQs := (aK A, a0 A, a1 A, ak0 A, ak1 A, aT A, aF A, aR A, fun j => if j = k then s else aH A j)
/-- what a lane keeps of a number -/
def lvV (lane : Nat) (v : Int32) : Int32 := if lane = 0 then v.toInt8.toInt32 else if lane = 1 then v.toInt16.toInt32 else v
def hUp (f : Nat → Int32) (i : Nat) (v : Int32) : Nat → Int32 := fun j => if j = i then v else f j
section IMAGES0
variable {G : zG} {I : zI} {L : zJ} {Q : zP} {h h2 : Nat} {K : zKi}
theorem c_Kitchen_copyFrom (ka : Ka h) (ka2 : Ka h2) (hne : h + 12 < h2 ∨ h2 + 12 < h) (kp : Kp I h2 K) (ko : Ko K) (hq : ∀ I', Kp I' h K → (∀ q, q < h + 1 ∨ h + 12 < q → I' q = I q) → Q none I' L) : Zm G 1 [.ref h, .ref h2] I L Q := by
  obtain ⟨a0, a1, a2, a3, a4, a5, a6, a7, a8⟩ := ka
  obtain ⟨b0, b1, b2, b3, b4, b5, b6, b7, b8⟩ := ka2
  obtain ⟨hp, lp, pp, ep⟩ := kp
  obtain ⟨so, sz, sst, lo, po, eo⟩ := ko
  refine Zm.go [some (.ref _), some (.ref _)] vl_1 rfl ?_
  refine Zp.aload_n k_1_0 rfl ?_
  refine Zp.getR k_1_1 rfl (zlt rfl) a0 a1 ?_
  refine Zp.aload_n k_1_4 rfl ?_
  refine Zp.getR k_1_5 rfl (zlt rfl) b0 b1 ?_
  refine Zp.callv1V v_55 k_1_8 a5.1 (Nat.le_of_ble_eq_true rfl) (Nat.le_of_ble_eq_true rfl) (c_Soup_copyFrom a5 b5 (by omega) hp so (fun I2 hp2 f2 => ⟨rfl, ?_⟩))
  refine Zp.aload_n k_1_11 rfl ?_
  refine Zp.getR k_1_12 rfl (zlt rfl) a0 a2 ?_
  refine Zp.aload_n k_1_15 rfl ?_
  refine Zp.getR k_1_16 rfl (zlt rfl) b0 b2 ?_
  refine Zp.callv1V v_48 k_1_19 a6.1 (Nat.le_of_ble_eq_true rfl) (Nat.le_of_ble_eq_true rfl) (c_Slips_copyFrom a6 b6 (by omega) (lp.fr (f2 _ (by omega) (by omega) (by omega)) (f2 _ (by omega) (by omega) (by omega)) (f2 _ (by omega) (by omega) (by omega)) (f2 _ (by omega) (by omega) (by omega))) lo (fun I3 lp3 f3 => ⟨rfl, ?_⟩))
  refine Zp.aload_n k_1_22 rfl ?_
  refine Zp.getR k_1_23 rfl (zlt rfl) a0 a3 ?_
  refine Zp.aload_n k_1_26 rfl ?_
  refine Zp.getR k_1_27 rfl (zlt rfl) b0 b3 ?_
  refine Zp.callv1V v_9 k_1_30 a7.1 (Nat.le_of_ble_eq_true rfl) (Nat.le_of_ble_eq_true rfl) (c_Plan_copyFrom a7 b7 (by omega) (pp.fr ((f3 _ (by omega) (by omega) (by omega) (by omega)).trans (f2 _ (by omega) (by omega) (by omega))) ((f3 _ (by omega) (by omega) (by omega) (by omega)).trans (f2 _ (by omega) (by omega) (by omega)))) po (fun I4 pp4 f4 => ⟨rfl, ?_⟩))
  refine Zp.aload_n k_1_33 rfl ?_
  refine Zp.getR k_1_34 rfl (zlt rfl) a0 a4 ?_
  refine Zp.aload_n k_1_37 rfl ?_
  refine Zp.getR k_1_38 rfl (zlt rfl) b0 b4 ?_
  refine Zp.callv1V v_37 k_1_41 a8.1 (Nat.le_of_ble_eq_true rfl) (Nat.le_of_ble_eq_true rfl) (c_Seen_copyFrom a8 b8 (by omega) (ep.fr ((f4 _ (by omega) (by omega)).trans ((f3 _ (by omega) (by omega) (by omega) (by omega)).trans (f2 _ (by omega) (by omega) (by omega)))) ((f4 _ (by omega) (by omega)).trans ((f3 _ (by omega) (by omega) (by omega) (by omega)).trans (f2 _ (by omega) (by omega) (by omega)))) ((f4 _ (by omega) (by omega)).trans ((f3 _ (by omega) (by omega) (by omega) (by omega)).trans (f2 _ (by omega) (by omega) (by omega))))) eo (fun I5 ep5 f5 => ⟨rfl, ?_⟩))
  refine Zp.vret k_1_44 vr_1 ?_
  have t3 : ∀ q, q < h + 4 ∨ h + 7 < q → I3 q = I2 q := fun q hq => f3 q (by omega) (by omega) (by omega) (by omega)
  have t4 : ∀ q, q < h + 8 ∨ h + 9 < q → I4 q = I3 q := fun q hq => f4 q (by omega) (by omega)
  have t5 : ∀ q, q < h + 10 ∨ h + 12 < q → I5 q = I4 q := fun q hq => f5 q (by omega) (by omega) (by omega)
  have g5 : ∀ q, q < h + 4 → I5 q = I2 q := fun q hq => (t5 q (by omega)).trans ((t4 q (by omega)).trans (t3 q (by omega)))
  have g6 : ∀ q, q < h + 8 → I5 q = I3 q := fun q hq => (t5 q (by omega)).trans (t4 q (by omega))
  refine hq I5 ⟨hp2.fr (g5 _ (by omega)) (g5 _ (by omega)) (g5 _ (by omega)), lp3.fr (g6 _ (by omega)) (g6 _ (by omega)) (g6 _ (by omega)) (g6 _ (by omega)), pp4.fr (t5 _ (by omega)) (t5 _ (by omega)), ep5⟩ (fun q hq => ?_)
  exact (t5 q (by omega)).trans ((t4 q (by omega)).trans ((t3 q (by omega)).trans (f2 q (by omega) (by omega) (by omega))))
theorem c_copiesM {t s : Nat} (ht : t + 58 ≤ 174) (hs : s + 58 ≤ 174) (hd : t + 58 ≤ s ∨ s + 58 ≤ t) (hq : ∀ I', (∀ j, j < 58 → I' 94 (t + j) = I 94 (s + j)) → (∀ j, j < t ∨ t + 58 ≤ j → I' 94 j = I 94 j) → (∀ q, q ≠ 94 → I' q = I q) → Q none I' L) : Zm G 220 [.ref 93, .int (nI t), .int (nI s)] I L Q := by
  have loop : ∀ k i (I1 : zI), i + k = 58 → (∀ j, j < i → I1 94 (t + j) = I 94 (s + j)) → (∀ j, j < t ∨ t + 58 ≤ j → I1 94 j = I 94 j) → (∀ q, q ≠ 94 → I1 q = I q) → Zp G 220 2 [some (.ref 93), some (.int (nI t)), some (.int (nI s)), some (.int (nI i))] [] I1 L Q := by
    intro k
    induction k with
    | zero =>
      intro i I1 hi h1 h3 h2
      have e : i = 58 := by omega
      subst e
      refine Zp.iload_n k_220_2 rfl ?_
      refine Zp.bipush (nI 58) k_220_3 (by decide) ?_
      refine Zp.icmp_geN k_220_5 (by omega) (by omega) (fun c_5 => ?_) (fun c_5 => absurd c_5 (by omega))
      refine Zp.vret k_220_30 vr_220 ?_
      exact hq I1 h1 h3 h2
    | succ k ih =>
      intro i I1 hi h1 h3 h2
      refine Zp.iload_n k_220_2 rfl ?_
      refine Zp.bipush (nI 58) k_220_3 (by decide) ?_
      refine Zp.icmp_geN k_220_5 (by omega) (by omega) (fun c_5 => absurd c_5 (by omega)) (fun c_5 => ?_)
      refine Zp.aload_n k_220_8 rfl ?_
      refine Zp.getR k_220_9 rfl (zlt rfl) m_93 r_93_0 ?_
      refine Zp.iload_n k_220_12 rfl ?_
      refine Zp.iload_n k_220_13 rfl ?_
      refine Zp.iaddN k_220_14 ?_
      refine Zp.aload_n k_220_15 rfl ?_
      refine Zp.getR k_220_16 rfl (zlt rfl) m_93 r_93_0 ?_
      refine Zp.iload_n k_220_19 rfl ?_
      refine Zp.iload_n k_220_20 rfl ?_
      refine Zp.iaddN k_220_21 ?_
      refine Zp.iald _ k_220_22 m_94 rfl (by omega) (zlt rfl) rfl ?_
      refine Zp.iast _ k_220_23 m_94 rfl (by omega) (zlt rfl) ?_
      refine Zp.iinc (nI (_ + 1)) [some (.ref _), some (.int _), some (.int _), some (.int _)] k_220_24 rfl (nI_1 _) (Nat.lt_of_lt_of_eq (zlt rfl : 3 < 4) vl_220.symm) rfl ?_
      refine Zp.goto k_220_27 ?_
      refine ih (i + 1) _ (by omega) (fun j hj => ?_) (fun j hj => by rw [zpu_k _ _ _ (by omega)]; exact h3 j hj) (fun q hq => by rw [zpu_q _ _ _ hq, h2 q hq])
      by_cases e : j = i
      · subst e; rw [zpu_s]; exact h3 _ (by omega)
      · rw [zpu_k _ _ _ (by omega)]; exact h1 j (by omega)
  refine Zm.go [some (.ref _), some (.int _), some (.int _), none] vl_220 rfl ?_
  refine Zp.iconst (nI 0) k_220_0 (by decide) ?_
  refine Zp.istore_n [some (.ref _), some (.int _), some (.int _), some (.int _)] k_220_1 (Nat.lt_of_lt_of_eq (zlt rfl : 3 < 4) vl_220.symm) rfl ?_
  exact loop 58 0 I (by omega) (fun j hj => absurd hj (Nat.not_lt_zero j)) (fun _ _ => rfl) (fun _ _ => rfl)
theorem c_has6 {q n l : Nat} {x : Int32} (hM : M0[q]? = some (6, n)) (hl : I q 0 = nI l) (hl2 : l < 2 ^ 31) (hq : Q (some (.int (zbo (0 ≤ x.toInt ∧ x.toInt < (l : Int))))) I L) : Zm G 43 [.ref q, .int x] I L Q := by
  refine Zm.go [some (.ref _), some (.int _)] vl_43 rfl ?_
  refine Zp.iload_n k_43_0 rfl ?_
  refine Zp.if_ltZ _ k_43_1 rfl (fun c_1 => ?_) (fun c_1 => ?_)
  · refine Zp.iconst (nI 0) k_43_16 (by decide) ?_
    refine Zp.iret _ k_43_17 vr_43 rfl ?_
    exact zq0 hq (by omega)
  · refine Zp.iload_n k_43_4 rfl ?_
    refine Zp.aload_n k_43_5 rfl ?_
    refine Zp.getV k_43_6 rfl (zlt rfl) hM hl ?_
    refine Zp.icmp_geZ _ _ k_43_9 rfl (nI_toInt (by omega)) (fun c_9 => ?_) (fun c_9 => ?_)
    · refine Zp.iconst (nI 0) k_43_16 (by decide) ?_
      refine Zp.iret _ k_43_17 vr_43 rfl ?_
      exact zq0 hq (by omega)
    · refine Zp.iconst (nI 1) k_43_12 (by decide) ?_
      refine Zp.goto k_43_13 ?_
      refine Zp.iret _ k_43_17 vr_43 rfl ?_
      exact zq1 hq (by omega)
theorem c_renew {q n lane len : Nat} (hM : M0[q]? = some (6, n)) (hR : (q, 1, q + 1) ∈ R0) (hM2 : M0[q + 1]? = some (50, 40)) (hl : len ≤ 40) (hq : ∀ I', I' q 0 = nI len → I' q 2 = nI lane → (∀ i, i < len → I' (q + 1) i = nI 0) → (∀ r, r ≠ q → r ≠ q + 1 → I' r = I r) → Q none I' L) : Zm G 44 [.ref q, .int (nI lane), .int (nI len)] I L Q := by
  have loop : ∀ k i (I1 : zI), i + k = len → I1 q 0 = nI len → I1 q 2 = nI lane → (∀ j, j < i → I1 (q + 1) j = nI 0) → (∀ r, r ≠ q → r ≠ q + 1 → I1 r = I r) → Zp G 44 12 [some (.ref q), some (.int (nI lane)), some (.int (nI len)), some (.int (nI i))] [] I1 L Q := by
    intro k
    induction k with
    | zero =>
      intro i I1 hi h1 h2 h3 h4
      have e : i = len := by omega
      subst e
      refine Zp.iload_n k_44_12 rfl ?_
      refine Zp.iload_n k_44_13 rfl ?_
      refine Zp.icmp_geN k_44_14 (by omega) (by omega) (fun c_14 => ?_) (fun c_14 => absurd c_14 (by omega))
      refine Zp.vret k_44_30 vr_44 ?_
      exact hq I1 h1 h2 h3 h4
    | succ k ih =>
      intro i I1 hi h1 h2 h3 h4
      refine Zp.iload_n k_44_12 rfl ?_
      refine Zp.iload_n k_44_13 rfl ?_
      refine Zp.icmp_geN k_44_14 (by omega) (by omega) (fun c_14 => absurd c_14 (by omega)) (fun c_14 => ?_)
      refine Zp.aload_n k_44_17 rfl ?_
      refine Zp.getR k_44_18 rfl (zlt rfl) hM hR ?_
      refine Zp.iload_n k_44_21 rfl ?_
      refine Zp.iconst (nI 0) k_44_22 (by decide) ?_
      refine Zp.iast _ k_44_23 hM2 rfl (by omega) (zlt rfl) ?_
      refine Zp.iinc (nI (_ + 1)) [some (.ref _), some (.int _), some (.int _), some (.int _)] k_44_24 rfl (nI_1 _) (Nat.lt_of_lt_of_eq (zlt rfl : 3 < 4) vl_44.symm) rfl ?_
      refine Zp.goto k_44_27 ?_
      refine ih (i + 1) _ (by omega) (by rw [zpu_q _ _ _ (by omega)]; exact h1) (by rw [zpu_q _ _ _ (by omega)]; exact h2) (fun j hj => ?_) (fun r a0 a1 => by rw [zpu_q _ _ _ a1]; exact h4 r a0 a1)
      by_cases e : j = i
      · subst e; rw [zpu_s]
      · rw [zpu_k _ _ _ e]; exact h3 j (by omega)
  refine Zm.go [some (.ref _), some (.int _), some (.int _), none] vl_44 rfl ?_
  refine Zp.aload_n k_44_0 rfl ?_
  refine Zp.iload_n k_44_1 rfl ?_
  refine Zp.putI k_44_2 rfl (zlt rfl) hM ?_
  refine Zp.aload_n k_44_5 rfl ?_
  refine Zp.iload_n k_44_6 rfl ?_
  refine Zp.putI k_44_7 rfl (zlt rfl) hM ?_
  refine Zp.iconst (nI 0) k_44_10 (by decide) ?_
  refine Zp.istore_n [some (.ref _), some (.int _), some (.int _), some (.int _)] k_44_11 (Nat.lt_of_lt_of_eq (zlt rfl : 3 < 4) vl_44.symm) rfl ?_
  exact loop len 0 _ (by omega) (zpu_s _ _ _ _) (by rw [zpu_k _ _ _ (by decide), zpu_s]) (fun j hj => absurd hj (Nat.not_lt_zero j)) (fun r a0 _ => by rw [zpu_q _ _ _ a0, zpu_q _ _ _ a0])
theorem c_layDown {q n lane i : Nat} {x : Int32} (hM : M0[q]? = some (6, n)) (hR : (q, 1, q + 1) ∈ R0) (hM2 : M0[q + 1]? = some (50, 40)) (hl : I q 2 = nI lane) (hl3 : lane ≤ 2) (hi : i < 40) (hq : Q none (zpu I (q + 1) i (lvV lane x)) L) : Zm G 45 [.ref q, .int (nI i), .int x] I L Q := by
  refine Zm.go [some (.ref _), some (.int _), some (.int _)] vl_45 rfl ?_
  refine Zp.aload_n k_45_0 rfl ?_
  refine Zp.getV k_45_1 rfl (zlt rfl) hM hl ?_
  refine Zp.if_neN k_45_4 (by omega) (fun c_4 => ?_) (fun c_4 => ?_)
  · refine Zp.aload_n k_45_18 rfl ?_
    refine Zp.getR k_45_19 rfl (zlt rfl) hM hR ?_
    refine Zp.iload_n k_45_22 rfl ?_
    refine Zp.aload_n k_45_23 rfl ?_
    refine Zp.getV k_45_24 rfl (zlt rfl) hM hl ?_
    refine Zp.iconst (nI 1) k_45_27 (by decide) ?_
    refine Zp.icmp_neN k_45_28 (by omega) (by omega) (fun c_28 => ?_) (fun c_28 => ?_)
    · refine Zp.iload_n k_45_36 rfl ?_
      refine Zp.iast _ k_45_37 hM2 rfl (by omega) (zlt rfl) ?_
      refine Zp.vret k_45_38 vr_45 ?_
      first | (rw [show lvV lane x = _ from if_pos c_4] at hq; exact hq) | (rw [show lvV lane x = _ from (if_neg c_4).trans (if_pos c_28)] at hq; exact hq) | (rw [show lvV lane x = _ from (if_neg c_4).trans (if_neg c_28)] at hq; exact hq)
    · refine Zp.iload_n k_45_31 rfl ?_
      refine Zp.i2s k_45_32 ?_
      refine Zp.goto k_45_33 ?_
      refine Zp.iast _ k_45_37 hM2 rfl (by omega) (zlt rfl) ?_
      refine Zp.vret k_45_38 vr_45 ?_
      first | (rw [show lvV lane x = _ from if_pos c_4] at hq; exact hq) | (rw [show lvV lane x = _ from (if_neg c_4).trans (if_pos c_28)] at hq; exact hq) | (rw [show lvV lane x = _ from (if_neg c_4).trans (if_neg c_28)] at hq; exact hq)
  · refine Zp.aload_n k_45_7 rfl ?_
    refine Zp.getR k_45_8 rfl (zlt rfl) hM hR ?_
    refine Zp.iload_n k_45_11 rfl ?_
    refine Zp.iload_n k_45_12 rfl ?_
    refine Zp.i2b k_45_13 ?_
    refine Zp.iast _ k_45_14 hM2 rfl (by omega) (zlt rfl) ?_
    refine Zp.goto k_45_15 ?_
    refine Zp.vret k_45_38 vr_45 ?_
    first | (rw [show lvV lane x = _ from if_pos c_4] at hq; exact hq) | (rw [show lvV lane x = _ from (if_neg c_4).trans (if_pos c_28)] at hq; exact hq) | (rw [show lvV lane x = _ from (if_neg c_4).trans (if_neg c_28)] at hq; exact hq)
theorem c_isSheetM {x y : Int32} {u v : Int} (hx : x.toInt = u) (hy : y.toInt = v) (hq : Q (some (.int (zbo ((0 ≤ u ∧ u ≤ 3) ∧ 0 ≤ v ∧ v ≤ 2)))) I L) : Zm G 223 [.int x, .int y] I L Q := by
  subst hx hy
  refine Zm.go [some (.int _), some (.int _)] vl_223 rfl ?_
  refine Zp.iload_n k_223_0 rfl ?_
  refine Zp.i2l k_223_1 ?_
  refine Zp.lconst (lN 0) k_223_2 (by decide) ?_
  refine Zp.ldc2 (lN 3) k_223_3 (by decide) ?_
  refine Zp.calls3I vs_131 k_223_6 (Nat.le_of_ble_eq_true rfl) (Nat.le_of_ble_eq_true rfl) (c_in (zi2l _) (lN_z (by decide)) (lN_z (by decide)) ⟨_, rfl, ?_⟩)
  refine Zp.if_eqB k_223_9 (fun c_9 => ?_) (fun c_9 => ?_)
  · refine Zp.iconst (nI 0) k_223_28 (by decide) ?_
    refine Zp.iret _ k_223_29 vr_223 rfl ?_
    exact zq0 hq (by omega)
  · refine Zp.iload_n k_223_12 rfl ?_
    refine Zp.i2l k_223_13 ?_
    refine Zp.lconst (lN 0) k_223_14 (by decide) ?_
    refine Zp.ldc2 (lN 2) k_223_15 (by decide) ?_
    refine Zp.calls3I vs_131 k_223_18 (Nat.le_of_ble_eq_true rfl) (Nat.le_of_ble_eq_true rfl) (c_in (zi2l _) (lN_z (by decide)) (lN_z (by decide)) ⟨_, rfl, ?_⟩)
    refine Zp.if_eqB k_223_21 (fun c_21 => ?_) (fun c_21 => ?_)
    · refine Zp.iconst (nI 0) k_223_28 (by decide) ?_
      refine Zp.iret _ k_223_29 vr_223 rfl ?_
      exact zq0 hq (by omega)
    · refine Zp.iconst (nI 1) k_223_24 (by decide) ?_
      refine Zp.goto k_223_25 ?_
      refine Zp.iret _ k_223_29 vr_223 rfl ?_
      exact zq1 hq (by omega)
end IMAGES0
section IMAGES
variable {G : zG} {A : zQs} {x y z : Int32}
theorem B_keep (ho : Ao A) : zBoth G 122 221 [.int x] A := by
  obtain ⟨⟨so, sz, sst, lo, po, eo⟩, ok0, ok1, oi0, oi1, ot, ob, of_, or_, oh⟩ := id ho
  obtain ⟨o1, o2, o3, o4, o5, o6, o7⟩ := id so
  obtain ⟨p1, p2, p3⟩ := id lo
  obtain ⟨u1, u2⟩ := id po
  obtain ⟨e1, e2⟩ := id eo
  by_cases v : 0 ≤ x.toInt ∧ x.toInt ≤ 1
  · obtain ⟨c, hc, rfl, ec⟩ := zin_nI (n := 2) v.1 (by omega)
    have bt := fun i (hi : i < 6) => bit_at (u := ak0 A + 2 * ak1 A) (by omega) hi
    have bo := fun i (hi : i < 6) => (bOr_at (u := ak0 A + 2 * ak1 A) (by omega) hi).1
    have b0 : bOr (ak0 A + 2 * ak1 A) 0 = 1 + 2 * ak1 A := by unfold bOr; split <;> omega
    have b1 : bOr (ak0 A + 2 * ak1 A) 1 = ak0 A + 2 * 1 := by unfold bOr; split <;> omega
    rcases (by omega : c = 0 ∨ c = 1) with rfl | rfl
    · refine ⟨.int (nI (ak0 A)), w0 A (aK A), ⟨ho.1, Nat.le_refl 1, ok1, fun _ => ⟨ho.1, Kl.rf _⟩, oi1, ho.2.2.2.2.2⟩, fun I L Q pc hq => ?_, fun I L Q pm hq => ?_⟩
      · obtain ⟨⟨hp, lp, pp, ep⟩, hk, hi0, hi1, ht, hb, hf, hr, hh⟩ := id pc
        refine Zm.go [some (.ref _), some (.int _), none] vl_122 rfl ?_
        refine Zp.iload_n k_122_0 rfl ?_
        refine Zp.iconst (nI 0) k_122_1 (by decide) ?_
        refine Zp.iconst (nI 1) k_122_2 (by decide) ?_
        refine Zp.calls3I vs_129 k_122_3 (Nat.le_of_ble_eq_true rfl) (Nat.le_of_ble_eq_true rfl) (c_isWithin (nI_toInt (by omega)) (nI_toInt (by omega)) (nI_toInt (by omega)) ⟨_, rfl, ?_⟩)
        refine Zp.if_neB k_122_6 (fun c_6 => ?_) (fun c_6 => absurd c_6 (by omega))
        refine Zp.aload_n k_122_11 rfl ?_
        refine Zp.getV k_122_12 rfl (zlt rfl) m_0 (by first | exact hk | exact (congrFun (f2 0 (by decide)) 2).trans hk) ?_
        refine Zp.iload_n k_122_15 rfl ?_
        refine Zp.ishr k_122_16 ?_
        refine Zp.iconst (nI 1) k_122_17 (by decide) ?_
        refine Zp.iand k_122_18 ?_
        rw [bt _ (by decide)]
        refine Zp.istore_n [some (.ref _), some (.int _), some (.int _)] k_122_19 (Nat.lt_of_lt_of_eq (zlt rfl : 2 < 3) vl_122.symm) rfl ?_
        refine Zp.aload_n k_122_20 rfl ?_
        refine Zp.getR k_122_21 rfl (zlt rfl) m_0 r_0_1 ?_
        refine Zp.iload_n k_122_24 rfl ?_
        refine Zp.aald 0 k_122_25 m_14 (by decide) rfl (by decide) (zlt rfl) r_14_0 ?_
        refine Zp.aload_n k_122_26 rfl ?_
        refine Zp.getR k_122_27 rfl (zlt rfl) m_0 r_0_0 ?_
        refine Zp.callv1V v_1 k_122_30 m_59 (Nat.le_of_ble_eq_true rfl) (Nat.le_of_ble_eq_true rfl) (c_Kitchen_copyFrom ka_59 ka_1 (by omega) pc.1 ho.1 (fun I2 kp2 f2 => ⟨rfl, ?_⟩))
        refine Zp.aload_n k_122_33 rfl ?_
        refine Zp.dup k_122_34 rfl ?_
        refine Zp.getV k_122_35 rfl (zlt rfl) m_0 (by first | exact hk | exact (congrFun (f2 0 (by decide)) 2).trans hk) ?_
        refine Zp.iconst (nI 1) k_122_38 (by decide) ?_
        refine Zp.iload_n k_122_39 rfl ?_
        refine Zp.ishl k_122_40 ?_
        refine Zp.ior k_122_41 ?_
        rw [bo _ (by decide), b0]
        refine Zp.putI k_122_42 rfl (zlt rfl) m_0 ?_
        refine Zp.iload_n k_122_45 rfl ?_
        refine Zp.iret _ k_122_46 vr_122 rfl ?_
        have f3 : ∀ q, q ≠ 0 → q < 60 ∨ 71 < q → zpu I2 0 2 (nI (1 + 2 * ak1 A)) q = I q := fun q h0 h1 => (zpu_q _ _ _ h0).trans (f2 q (by omega))
        refine zqN (hq _ ⟨?_, zpu_s _ _ _ _, fun c => kp2.fr fun q a b => zpu_q _ _ _ (by omega), fun c => (hi1 c).fr fun q a b => f3 q (by omega) (by omega), ?_, ?_, ?_, ?_, fun k hk => ?_⟩ (fun q h => f3 q (by omega) (by omega))) (by omega)
        · exact pc.1.fr fun q a b => f3 q (by omega) (by omega)
        · rw [f3 29 (by decide) (by omega)]; exact ht
        · rw [f3 30 (by decide) (by omega)]; exact hb
        · rw [zpu_k _ _ _ (by decide), f2 0 (by omega)]; exact hf
        · rw [zpu_k _ _ _ (by decide), f2 0 (by omega)]; exact hr
        · have h3 := hh k hk
          unfold Hc at h3 ⊢
          show (_ → zpu I2 0 2 _ _ _ = -1) ∧ _
          rw [f3 (85 + 2 * k) (by omega) (by omega), f3 (86 + 2 * k) (by omega) (by omega)]
          exact h3
      · obtain ⟨m3, ⟨mp, xp⟩, m4, ms1, ms2, ms3, mk0, mk1, mi0, mi1, mt, mb, mf, mr, mh⟩ := id pm
        refine Zm.go [some (.ref _), some (.int _), none] vl_221 rfl ?_
        refine Zp.iload_n k_221_0 rfl ?_
        refine Zp.i2l k_221_1 ?_
        refine Zp.lconst (lN 0) k_221_2 (by decide) ?_
        refine Zp.lconst (lN 1) k_221_3 (by decide) ?_
        refine Zp.calls3I vs_131 k_221_4 (Nat.le_of_ble_eq_true rfl) (Nat.le_of_ble_eq_true rfl) (c_in (zi2n (by omega)) (lN_z (by decide)) (lN_z (by decide)) ⟨_, rfl, ?_⟩)
        refine Zp.if_neB k_221_7 (fun c_7 => ?_) (fun c_7 => absurd c_7 (by omega))
        refine Zp.aload_n k_221_12 rfl ?_
        refine Zp.getR k_221_13 rfl (zlt rfl) m_93 r_93_2 ?_
        refine Zp.iload_n k_221_16 rfl ?_
        refine Zp.zald _ k_221_17 m_96 rfl (by omega) (zlt rfl) mk0 ?_
        refine Zp.calls1I vs_132 k_221_18 (Nat.le_of_ble_eq_true rfl) (Nat.le_of_ble_eq_true rfl) (c_flagNM (by omega) ⟨_, rfl, ?_⟩)
        refine Zp.istore_n [some (.ref _), some (.int _), some (.int _)] k_221_21 (Nat.lt_of_lt_of_eq (zlt rfl : 2 < 3) vl_221.symm) rfl ?_
        refine Zp.aload_n k_221_22 rfl ?_
        refine Zp.getR k_221_23 rfl (zlt rfl) m_93 r_93_2 ?_
        refine Zp.iload_n k_221_26 rfl ?_
        refine Zp.iconst (nI 1) k_221_27 (by decide) ?_
        refine Zp.zast _ k_221_28 m_96 rfl (by omega) (zlt rfl) (by decide) ?_
        refine Zp.aload_n k_221_29 rfl ?_
        refine Zp.bipush (nI 58) k_221_30 (by decide) ?_
        refine Zp.iload_n k_221_32 rfl ?_
        refine Zp.iconst (nI 1) k_221_33 (by decide) ?_
        refine Zp.iaddN k_221_34 ?_
        refine Zp.imulN k_221_35 ?_
        refine Zp.iconst (nI 0) k_221_36 (by decide) ?_
        refine Zp.callv2V v_220 k_221_37 m_93 (Nat.le_of_ble_eq_true rfl) (Nat.le_of_ble_eq_true rfl) (c_copiesM (by decide) (by decide) (by decide) (fun I2 g1 g2 g3 => ⟨rfl, ?_⟩))
        refine Zp.iload_n k_221_40 rfl ?_
        refine Zp.iret _ k_221_41 vr_221 rfl ?_
        have f3 : ∀ q, q ≠ 94 → q ≠ 96 → I2 q = I q := fun q h0 h1 => (g3 q h0).trans (zpu_q _ _ _ h1)
        have e94 : zpu I 96 0 (nI 1) 94 = I 94 := zpu_q _ _ _ (by decide)
        have e96 : I2 96 = zpu I 96 0 (nI 1) 96 := g3 96 (by decide)
        have kn : Km (I2 94) (aK A) := Km.fr ⟨mp, xp⟩ ho.1 fun j hj => (g2 j (by omega)).trans (congrFun e94 j)
        have ki : Km (fun j => I2 94 (58 + j)) (aK A) := Km.fr ⟨mp, xp⟩ ho.1 fun j hj => (g1 j hj).trans ((congrFun e94 _).trans (congrArg (I 94) (Nat.zero_add j)))
        refine hq _ _ ⟨by rw [f3 93 (by decide) (by decide)]; exact m3, kn, by rw [f3 93 (by decide) (by decide)]; exact m4, by rw [f3 97 (by decide) (by decide)]; exact ms1, by rw [f3 98 (by decide) (by decide)]; exact ms2, by rw [f3 99 (by decide) (by decide)]; exact ms3, ?_, ?_, fun c => ki, fun c => (mi1 c).fr (oi1 c).1 fun j hj => (g2 _ (by omega)).trans (congrFun e94 _), by rw [f3 93 (by decide) (by decide)]; exact mt, by rw [f3 104 (by decide) (by decide)]; exact mb, by rw [f3 93 (by decide) (by decide)]; exact mf, by rw [f3 93 (by decide) (by decide)]; exact mr, fun k hk => ?_⟩ (fun q h => f3 q (by omega) (by omega))
        · rw [e96]; exact zpu_s _ _ _ _
        · rw [e96]; rw [zpu_k _ _ _ (by decide)]; exact mk1
        · have h3 := mh k hk
          unfold Hm at h3 ⊢
          rw [f3 107 (by decide) (by decide), f3 108 (by decide) (by decide), f3 109 (by decide) (by decide)]
          exact h3
    · refine ⟨.int (nI (ak1 A)), w1 A (aK A), ⟨ho.1, ok0, Nat.le_refl 1, oi0, fun _ => ⟨ho.1, Kl.rf _⟩, ho.2.2.2.2.2⟩, fun I L Q pc hq => ?_, fun I L Q pm hq => ?_⟩
      · obtain ⟨⟨hp, lp, pp, ep⟩, hk, hi0, hi1, ht, hb, hf, hr, hh⟩ := id pc
        refine Zm.go [some (.ref _), some (.int _), none] vl_122 rfl ?_
        refine Zp.iload_n k_122_0 rfl ?_
        refine Zp.iconst (nI 0) k_122_1 (by decide) ?_
        refine Zp.iconst (nI 1) k_122_2 (by decide) ?_
        refine Zp.calls3I vs_129 k_122_3 (Nat.le_of_ble_eq_true rfl) (Nat.le_of_ble_eq_true rfl) (c_isWithin (nI_toInt (by omega)) (nI_toInt (by omega)) (nI_toInt (by omega)) ⟨_, rfl, ?_⟩)
        refine Zp.if_neB k_122_6 (fun c_6 => ?_) (fun c_6 => absurd c_6 (by omega))
        refine Zp.aload_n k_122_11 rfl ?_
        refine Zp.getV k_122_12 rfl (zlt rfl) m_0 (by first | exact hk | exact (congrFun (f2 0 (by decide)) 2).trans hk) ?_
        refine Zp.iload_n k_122_15 rfl ?_
        refine Zp.ishr k_122_16 ?_
        refine Zp.iconst (nI 1) k_122_17 (by decide) ?_
        refine Zp.iand k_122_18 ?_
        rw [bt _ (by decide)]
        refine Zp.istore_n [some (.ref _), some (.int _), some (.int _)] k_122_19 (Nat.lt_of_lt_of_eq (zlt rfl : 2 < 3) vl_122.symm) rfl ?_
        refine Zp.aload_n k_122_20 rfl ?_
        refine Zp.getR k_122_21 rfl (zlt rfl) m_0 r_0_1 ?_
        refine Zp.iload_n k_122_24 rfl ?_
        refine Zp.aald 1 k_122_25 m_14 (by decide) rfl (by decide) (zlt rfl) r_14_1 ?_
        refine Zp.aload_n k_122_26 rfl ?_
        refine Zp.getR k_122_27 rfl (zlt rfl) m_0 r_0_0 ?_
        refine Zp.callv1V v_1 k_122_30 m_72 (Nat.le_of_ble_eq_true rfl) (Nat.le_of_ble_eq_true rfl) (c_Kitchen_copyFrom ka_72 ka_1 (by omega) pc.1 ho.1 (fun I2 kp2 f2 => ⟨rfl, ?_⟩))
        refine Zp.aload_n k_122_33 rfl ?_
        refine Zp.dup k_122_34 rfl ?_
        refine Zp.getV k_122_35 rfl (zlt rfl) m_0 (by first | exact hk | exact (congrFun (f2 0 (by decide)) 2).trans hk) ?_
        refine Zp.iconst (nI 1) k_122_38 (by decide) ?_
        refine Zp.iload_n k_122_39 rfl ?_
        refine Zp.ishl k_122_40 ?_
        refine Zp.ior k_122_41 ?_
        rw [bo _ (by decide), b1]
        refine Zp.putI k_122_42 rfl (zlt rfl) m_0 ?_
        refine Zp.iload_n k_122_45 rfl ?_
        refine Zp.iret _ k_122_46 vr_122 rfl ?_
        have f3 : ∀ q, q ≠ 0 → q < 73 ∨ 84 < q → zpu I2 0 2 (nI (ak0 A + 2 * 1)) q = I q := fun q h0 h1 => (zpu_q _ _ _ h0).trans (f2 q (by omega))
        refine zqN (hq _ ⟨?_, zpu_s _ _ _ _, fun c => (hi0 c).fr fun q a b => f3 q (by omega) (by omega), fun c => kp2.fr fun q a b => zpu_q _ _ _ (by omega), ?_, ?_, ?_, ?_, fun k hk => ?_⟩ (fun q h => f3 q (by omega) (by omega))) (by omega)
        · exact pc.1.fr fun q a b => f3 q (by omega) (by omega)
        · rw [f3 29 (by decide) (by omega)]; exact ht
        · rw [f3 30 (by decide) (by omega)]; exact hb
        · rw [zpu_k _ _ _ (by decide), f2 0 (by omega)]; exact hf
        · rw [zpu_k _ _ _ (by decide), f2 0 (by omega)]; exact hr
        · have h3 := hh k hk
          unfold Hc at h3 ⊢
          show (_ → zpu I2 0 2 _ _ _ = -1) ∧ _
          rw [f3 (85 + 2 * k) (by omega) (by omega), f3 (86 + 2 * k) (by omega) (by omega)]
          exact h3
      · obtain ⟨m3, ⟨mp, xp⟩, m4, ms1, ms2, ms3, mk0, mk1, mi0, mi1, mt, mb, mf, mr, mh⟩ := id pm
        refine Zm.go [some (.ref _), some (.int _), none] vl_221 rfl ?_
        refine Zp.iload_n k_221_0 rfl ?_
        refine Zp.i2l k_221_1 ?_
        refine Zp.lconst (lN 0) k_221_2 (by decide) ?_
        refine Zp.lconst (lN 1) k_221_3 (by decide) ?_
        refine Zp.calls3I vs_131 k_221_4 (Nat.le_of_ble_eq_true rfl) (Nat.le_of_ble_eq_true rfl) (c_in (zi2n (by omega)) (lN_z (by decide)) (lN_z (by decide)) ⟨_, rfl, ?_⟩)
        refine Zp.if_neB k_221_7 (fun c_7 => ?_) (fun c_7 => absurd c_7 (by omega))
        refine Zp.aload_n k_221_12 rfl ?_
        refine Zp.getR k_221_13 rfl (zlt rfl) m_93 r_93_2 ?_
        refine Zp.iload_n k_221_16 rfl ?_
        refine Zp.zald _ k_221_17 m_96 rfl (by omega) (zlt rfl) mk1 ?_
        refine Zp.calls1I vs_132 k_221_18 (Nat.le_of_ble_eq_true rfl) (Nat.le_of_ble_eq_true rfl) (c_flagNM (by omega) ⟨_, rfl, ?_⟩)
        refine Zp.istore_n [some (.ref _), some (.int _), some (.int _)] k_221_21 (Nat.lt_of_lt_of_eq (zlt rfl : 2 < 3) vl_221.symm) rfl ?_
        refine Zp.aload_n k_221_22 rfl ?_
        refine Zp.getR k_221_23 rfl (zlt rfl) m_93 r_93_2 ?_
        refine Zp.iload_n k_221_26 rfl ?_
        refine Zp.iconst (nI 1) k_221_27 (by decide) ?_
        refine Zp.zast _ k_221_28 m_96 rfl (by omega) (zlt rfl) (by decide) ?_
        refine Zp.aload_n k_221_29 rfl ?_
        refine Zp.bipush (nI 58) k_221_30 (by decide) ?_
        refine Zp.iload_n k_221_32 rfl ?_
        refine Zp.iconst (nI 1) k_221_33 (by decide) ?_
        refine Zp.iaddN k_221_34 ?_
        refine Zp.imulN k_221_35 ?_
        refine Zp.iconst (nI 0) k_221_36 (by decide) ?_
        refine Zp.callv2V v_220 k_221_37 m_93 (Nat.le_of_ble_eq_true rfl) (Nat.le_of_ble_eq_true rfl) (c_copiesM (by decide) (by decide) (by decide) (fun I2 g1 g2 g3 => ⟨rfl, ?_⟩))
        refine Zp.iload_n k_221_40 rfl ?_
        refine Zp.iret _ k_221_41 vr_221 rfl ?_
        have f3 : ∀ q, q ≠ 94 → q ≠ 96 → I2 q = I q := fun q h0 h1 => (g3 q h0).trans (zpu_q _ _ _ h1)
        have e94 : zpu I 96 1 (nI 1) 94 = I 94 := zpu_q _ _ _ (by decide)
        have e96 : I2 96 = zpu I 96 1 (nI 1) 96 := g3 96 (by decide)
        have kn : Km (I2 94) (aK A) := Km.fr ⟨mp, xp⟩ ho.1 fun j hj => (g2 j (by omega)).trans (congrFun e94 j)
        have ki : Km (fun j => I2 94 (116 + j)) (aK A) := Km.fr ⟨mp, xp⟩ ho.1 fun j hj => (g1 j hj).trans ((congrFun e94 _).trans (congrArg (I 94) (Nat.zero_add j)))
        refine hq _ _ ⟨by rw [f3 93 (by decide) (by decide)]; exact m3, kn, by rw [f3 93 (by decide) (by decide)]; exact m4, by rw [f3 97 (by decide) (by decide)]; exact ms1, by rw [f3 98 (by decide) (by decide)]; exact ms2, by rw [f3 99 (by decide) (by decide)]; exact ms3, ?_, ?_, fun c => (mi0 c).fr (oi0 c).1 fun j hj => (g2 _ (by omega)).trans (congrFun e94 _), fun c => ki, by rw [f3 93 (by decide) (by decide)]; exact mt, by rw [f3 104 (by decide) (by decide)]; exact mb, by rw [f3 93 (by decide) (by decide)]; exact mf, by rw [f3 93 (by decide) (by decide)]; exact mr, fun k hk => ?_⟩ (fun q h => f3 q (by omega) (by omega))
        · rw [e96]; rw [zpu_k _ _ _ (by decide)]; exact mk0
        · rw [e96]; exact zpu_s _ _ _ _
        · have h3 := mh k hk
          unfold Hm at h3 ⊢
          rw [f3 107 (by decide) (by decide), f3 108 (by decide) (by decide), f3 109 (by decide) (by decide)]
          exact h3
  · refine ⟨.int (-1), A, ho, fun I L Q pc hq => ?_, fun I L Q pm hq => ?_⟩
    · obtain ⟨⟨hp, lp, pp, ep⟩, hk, hi0, hi1, ht, hb, hf, hr, hh⟩ := id pc
      refine Zm.go [some (.ref _), some (.int _), none] vl_122 rfl ?_
      refine Zp.iload_n k_122_0 rfl ?_
      refine Zp.iconst (nI 0) k_122_1 (by decide) ?_
      refine Zp.iconst (nI 1) k_122_2 (by decide) ?_
      refine Zp.calls3I vs_129 k_122_3 (Nat.le_of_ble_eq_true rfl) (Nat.le_of_ble_eq_true rfl) (c_isWithin rfl (nI_toInt (by omega)) (nI_toInt (by omega)) ⟨_, rfl, ?_⟩)
      refine Zp.if_neB k_122_6 (fun c_6 => absurd c_6 (by omega)) (fun c_6 => ?_)
      refine Zp.iconst (-1) k_122_9 (by decide) ?_
      refine Zp.iret _ k_122_10 vr_122 rfl ?_
      exact hq I pc (FrC.rf I)
    · obtain ⟨m3, ⟨mp, xp⟩, m4, ms1, ms2, ms3, mk0, mk1, mi0, mi1, mt, mb, mf, mr, mh⟩ := id pm
      refine Zm.go [some (.ref _), some (.int _), none] vl_221 rfl ?_
      refine Zp.iload_n k_221_0 rfl ?_
      refine Zp.i2l k_221_1 ?_
      refine Zp.lconst (lN 0) k_221_2 (by decide) ?_
      refine Zp.lconst (lN 1) k_221_3 (by decide) ?_
      refine Zp.calls3I vs_131 k_221_4 (Nat.le_of_ble_eq_true rfl) (Nat.le_of_ble_eq_true rfl) (c_in (zi2l _) (lN_z (by decide)) (lN_z (by decide)) ⟨_, rfl, ?_⟩)
      refine Zp.if_neB k_221_7 (fun c_7 => absurd c_7 (by omega)) (fun c_7 => ?_)
      refine Zp.iconst (-1) k_221_10 (by decide) ?_
      refine Zp.iret _ k_221_11 vr_221 rfl ?_
      first | exact hq I L pm (FrM.rf I) | exact hq I2 L pm2 (fun q hq => s2 q (by omega))
theorem B_back (ho : Ao A) : zBoth G 123 222 [.int x] A := by
  obtain ⟨⟨so, sz, sst, lo, po, eo⟩, ok0, ok1, oi0, oi1, ot, ob, of_, or_, oh⟩ := id ho
  obtain ⟨o1, o2, o3, o4, o5, o6, o7⟩ := id so
  obtain ⟨p1, p2, p3⟩ := id lo
  obtain ⟨u1, u2⟩ := id po
  obtain ⟨e1, e2⟩ := id eo
  by_cases v : 0 ≤ x.toInt ∧ x.toInt ≤ 1
  · obtain ⟨c, hc, rfl, ec⟩ := zin_nI (n := 2) v.1 (by omega)
    have bt := fun i (hi : i < 6) => bit_at (u := ak0 A + 2 * ak1 A) (by omega) hi
    rcases (by omega : c = 0 ∨ c = 1) with rfl | rfl
    · by_cases w : ak0 A = 0
      · refine ⟨.int (-2), A, ho, fun I L Q pc hq => ?_, fun I L Q pm hq => ?_⟩
        · obtain ⟨⟨hp, lp, pp, ep⟩, hk, hi0, hi1, ht, hb, hf, hr, hh⟩ := id pc
          refine Zm.go [some (.ref _), some (.int _)] vl_123 rfl ?_
          refine Zp.iload_n k_123_0 rfl ?_
          refine Zp.iconst (nI 0) k_123_1 (by decide) ?_
          refine Zp.iconst (nI 1) k_123_2 (by decide) ?_
          refine Zp.calls3I vs_129 k_123_3 (Nat.le_of_ble_eq_true rfl) (Nat.le_of_ble_eq_true rfl) (c_isWithin (nI_toInt (by omega)) (nI_toInt (by omega)) (nI_toInt (by omega)) ⟨_, rfl, ?_⟩)
          refine Zp.if_neB k_123_6 (fun c_6 => ?_) (fun c_6 => absurd c_6 (by omega))
          refine Zp.aload_n k_123_11 rfl ?_
          refine Zp.getV k_123_12 rfl (zlt rfl) m_0 hk ?_
          refine Zp.iload_n k_123_15 rfl ?_
          refine Zp.ishr k_123_16 ?_
          refine Zp.iconst (nI 1) k_123_17 (by decide) ?_
          refine Zp.iand k_123_18 ?_
          rw [bt _ (by decide)]
          refine Zp.if_neN k_123_19 (by omega) (fun c_19 => absurd c_19 (by omega)) (fun c_19 => ?_)
          refine Zp.bipush (-2) k_123_22 (by decide) ?_
          refine Zp.iret _ k_123_24 vr_123 rfl ?_
          exact hq I pc (FrC.rf I)
        · obtain ⟨m3, ⟨mp, xp⟩, m4, ms1, ms2, ms3, mk0, mk1, mi0, mi1, mt, mb, mf, mr, mh⟩ := id pm
          refine Zm.go [some (.ref _), some (.int _)] vl_222 rfl ?_
          refine Zp.iload_n k_222_0 rfl ?_
          refine Zp.i2l k_222_1 ?_
          refine Zp.lconst (lN 0) k_222_2 (by decide) ?_
          refine Zp.lconst (lN 1) k_222_3 (by decide) ?_
          refine Zp.calls3I vs_131 k_222_4 (Nat.le_of_ble_eq_true rfl) (Nat.le_of_ble_eq_true rfl) (c_in (zi2n (by omega)) (lN_z (by decide)) (lN_z (by decide)) ⟨_, rfl, ?_⟩)
          refine Zp.if_neB k_222_7 (fun c_7 => ?_) (fun c_7 => absurd c_7 (by omega))
          refine Zp.aload_n k_222_12 rfl ?_
          refine Zp.getR k_222_13 rfl (zlt rfl) m_93 r_93_2 ?_
          refine Zp.iload_n k_222_16 rfl ?_
          refine Zp.zald _ k_222_17 m_96 rfl (by omega) (zlt rfl) mk0 ?_
          refine Zp.if_neN k_222_18 (by omega) (fun c_18 => absurd c_18 (by omega)) (fun c_18 => ?_)
          refine Zp.bipush (-2) k_222_21 (by decide) ?_
          refine Zp.iret _ k_222_23 vr_222 rfl ?_
          first | exact hq I L pm (FrM.rf I) | exact hq I2 L pm2 (fun q hq => s2 q (by omega))
      · have w1 := oi0 (by omega)
        refine ⟨.int (nI (sdone (kS (a0 A)))), wK A (a0 A), ho.now w1.1 w1.2, fun I L Q pc hq => ?_, fun I L Q pm hq => ?_⟩
        · obtain ⟨⟨hp, lp, pp, ep⟩, hk, hi0, hi1, ht, hb, hf, hr, hh⟩ := id pc
          refine Zm.go [some (.ref _), some (.int _)] vl_123 rfl ?_
          refine Zp.iload_n k_123_0 rfl ?_
          refine Zp.iconst (nI 0) k_123_1 (by decide) ?_
          refine Zp.iconst (nI 1) k_123_2 (by decide) ?_
          refine Zp.calls3I vs_129 k_123_3 (Nat.le_of_ble_eq_true rfl) (Nat.le_of_ble_eq_true rfl) (c_isWithin (nI_toInt (by omega)) (nI_toInt (by omega)) (nI_toInt (by omega)) ⟨_, rfl, ?_⟩)
          refine Zp.if_neB k_123_6 (fun c_6 => ?_) (fun c_6 => absurd c_6 (by omega))
          refine Zp.aload_n k_123_11 rfl ?_
          refine Zp.getV k_123_12 rfl (zlt rfl) m_0 hk ?_
          refine Zp.iload_n k_123_15 rfl ?_
          refine Zp.ishr k_123_16 ?_
          refine Zp.iconst (nI 1) k_123_17 (by decide) ?_
          refine Zp.iand k_123_18 ?_
          rw [bt _ (by decide)]
          refine Zp.if_neN k_123_19 (by omega) (fun c_19 => ?_) (fun c_19 => absurd c_19 (by omega))
          refine Zp.aload_n k_123_25 rfl ?_
          refine Zp.getR k_123_26 rfl (zlt rfl) m_0 r_0_0 ?_
          refine Zp.aload_n k_123_29 rfl ?_
          refine Zp.getR k_123_30 rfl (zlt rfl) m_0 r_0_1 ?_
          refine Zp.iload_n k_123_33 rfl ?_
          refine Zp.aald 0 k_123_34 m_14 (by decide) rfl (by decide) (zlt rfl) r_14_0 ?_
          refine Zp.callv1V v_1 k_123_35 m_1 (Nat.le_of_ble_eq_true rfl) (Nat.le_of_ble_eq_true rfl) (c_Kitchen_copyFrom ka_1 ka_59 (by omega) (hi0 (by omega)) w1.1 (fun I2 kp2 f2 => ⟨rfl, ?_⟩))
          refine Zp.aload_n k_123_38 rfl ?_
          refine Zp.getR k_123_39 rfl (zlt rfl) m_0 r_0_0 ?_
          refine Zp.getR k_123_42 rfl (zlt rfl) m_1 r_1_0 ?_
          refine Zp.getV k_123_45 rfl (zlt rfl) m_2 kp2.1.2.2.2.2.1 ?_
          refine Zp.iret _ k_123_48 vr_123 rfl ?_
          exact hq _ (pc.now kp2 (fun q h => f2 q (by omega))) (fun q h => f2 q (by omega))
        · obtain ⟨m3, ⟨mp, xp⟩, m4, ms1, ms2, ms3, mk0, mk1, mi0, mi1, mt, mb, mf, mr, mh⟩ := id pm
          refine Zm.go [some (.ref _), some (.int _)] vl_222 rfl ?_
          refine Zp.iload_n k_222_0 rfl ?_
          refine Zp.i2l k_222_1 ?_
          refine Zp.lconst (lN 0) k_222_2 (by decide) ?_
          refine Zp.lconst (lN 1) k_222_3 (by decide) ?_
          refine Zp.calls3I vs_131 k_222_4 (Nat.le_of_ble_eq_true rfl) (Nat.le_of_ble_eq_true rfl) (c_in (zi2n (by omega)) (lN_z (by decide)) (lN_z (by decide)) ⟨_, rfl, ?_⟩)
          refine Zp.if_neB k_222_7 (fun c_7 => ?_) (fun c_7 => absurd c_7 (by omega))
          refine Zp.aload_n k_222_12 rfl ?_
          refine Zp.getR k_222_13 rfl (zlt rfl) m_93 r_93_2 ?_
          refine Zp.iload_n k_222_16 rfl ?_
          refine Zp.zald _ k_222_17 m_96 rfl (by omega) (zlt rfl) mk0 ?_
          refine Zp.if_neN k_222_18 (by omega) (fun c_18 => ?_) (fun c_18 => absurd c_18 (by omega))
          refine Zp.aload_n k_222_24 rfl ?_
          refine Zp.iconst (nI 0) k_222_25 (by decide) ?_
          refine Zp.bipush (nI 58) k_222_26 (by decide) ?_
          refine Zp.iload_n k_222_28 rfl ?_
          refine Zp.iconst (nI 1) k_222_29 (by decide) ?_
          refine Zp.iaddN k_222_30 ?_
          refine Zp.imulN k_222_31 ?_
          refine Zp.callv2V v_220 k_222_32 m_93 (Nat.le_of_ble_eq_true rfl) (Nat.le_of_ble_eq_true rfl) (c_copiesM (by decide) (by decide) (by decide) (fun I2 g1 g2 g3 => ⟨rfl, ?_⟩))
          have kn : Km (I2 94) (a0 A) := (mi0 (by omega)).fr w1.1 fun j hj => (congrArg (I2 94) (Nat.zero_add j).symm).trans (g1 j hj)
          refine Zp.aload_n k_222_35 rfl ?_
          refine Zp.getR k_222_36 rfl (zlt rfl) m_93 r_93_0 ?_
          refine Zp.bipush (nI 33) k_222_39 (by decide) ?_
          refine Zp.iald _ k_222_41 m_94 rfl (by omega) (zlt rfl) kn.1.2.2.2.2.2.1 ?_
          refine Zp.iret _ k_222_42 vr_222 rfl ?_
          exact hq _ _ (pm.st ho w1.2 kn (fun j hj => g2 j (by omega)) (fun q h _ => g3 q h)) (fun q h => g3 q (by omega))
    · by_cases w : ak1 A = 0
      · refine ⟨.int (-2), A, ho, fun I L Q pc hq => ?_, fun I L Q pm hq => ?_⟩
        · obtain ⟨⟨hp, lp, pp, ep⟩, hk, hi0, hi1, ht, hb, hf, hr, hh⟩ := id pc
          refine Zm.go [some (.ref _), some (.int _)] vl_123 rfl ?_
          refine Zp.iload_n k_123_0 rfl ?_
          refine Zp.iconst (nI 0) k_123_1 (by decide) ?_
          refine Zp.iconst (nI 1) k_123_2 (by decide) ?_
          refine Zp.calls3I vs_129 k_123_3 (Nat.le_of_ble_eq_true rfl) (Nat.le_of_ble_eq_true rfl) (c_isWithin (nI_toInt (by omega)) (nI_toInt (by omega)) (nI_toInt (by omega)) ⟨_, rfl, ?_⟩)
          refine Zp.if_neB k_123_6 (fun c_6 => ?_) (fun c_6 => absurd c_6 (by omega))
          refine Zp.aload_n k_123_11 rfl ?_
          refine Zp.getV k_123_12 rfl (zlt rfl) m_0 hk ?_
          refine Zp.iload_n k_123_15 rfl ?_
          refine Zp.ishr k_123_16 ?_
          refine Zp.iconst (nI 1) k_123_17 (by decide) ?_
          refine Zp.iand k_123_18 ?_
          rw [bt _ (by decide)]
          refine Zp.if_neN k_123_19 (by omega) (fun c_19 => absurd c_19 (by omega)) (fun c_19 => ?_)
          refine Zp.bipush (-2) k_123_22 (by decide) ?_
          refine Zp.iret _ k_123_24 vr_123 rfl ?_
          exact hq I pc (FrC.rf I)
        · obtain ⟨m3, ⟨mp, xp⟩, m4, ms1, ms2, ms3, mk0, mk1, mi0, mi1, mt, mb, mf, mr, mh⟩ := id pm
          refine Zm.go [some (.ref _), some (.int _)] vl_222 rfl ?_
          refine Zp.iload_n k_222_0 rfl ?_
          refine Zp.i2l k_222_1 ?_
          refine Zp.lconst (lN 0) k_222_2 (by decide) ?_
          refine Zp.lconst (lN 1) k_222_3 (by decide) ?_
          refine Zp.calls3I vs_131 k_222_4 (Nat.le_of_ble_eq_true rfl) (Nat.le_of_ble_eq_true rfl) (c_in (zi2n (by omega)) (lN_z (by decide)) (lN_z (by decide)) ⟨_, rfl, ?_⟩)
          refine Zp.if_neB k_222_7 (fun c_7 => ?_) (fun c_7 => absurd c_7 (by omega))
          refine Zp.aload_n k_222_12 rfl ?_
          refine Zp.getR k_222_13 rfl (zlt rfl) m_93 r_93_2 ?_
          refine Zp.iload_n k_222_16 rfl ?_
          refine Zp.zald _ k_222_17 m_96 rfl (by omega) (zlt rfl) mk1 ?_
          refine Zp.if_neN k_222_18 (by omega) (fun c_18 => absurd c_18 (by omega)) (fun c_18 => ?_)
          refine Zp.bipush (-2) k_222_21 (by decide) ?_
          refine Zp.iret _ k_222_23 vr_222 rfl ?_
          first | exact hq I L pm (FrM.rf I) | exact hq I2 L pm2 (fun q hq => s2 q (by omega))
      · have w1 := oi1 (by omega)
        refine ⟨.int (nI (sdone (kS (a1 A)))), wK A (a1 A), ho.now w1.1 w1.2, fun I L Q pc hq => ?_, fun I L Q pm hq => ?_⟩
        · obtain ⟨⟨hp, lp, pp, ep⟩, hk, hi0, hi1, ht, hb, hf, hr, hh⟩ := id pc
          refine Zm.go [some (.ref _), some (.int _)] vl_123 rfl ?_
          refine Zp.iload_n k_123_0 rfl ?_
          refine Zp.iconst (nI 0) k_123_1 (by decide) ?_
          refine Zp.iconst (nI 1) k_123_2 (by decide) ?_
          refine Zp.calls3I vs_129 k_123_3 (Nat.le_of_ble_eq_true rfl) (Nat.le_of_ble_eq_true rfl) (c_isWithin (nI_toInt (by omega)) (nI_toInt (by omega)) (nI_toInt (by omega)) ⟨_, rfl, ?_⟩)
          refine Zp.if_neB k_123_6 (fun c_6 => ?_) (fun c_6 => absurd c_6 (by omega))
          refine Zp.aload_n k_123_11 rfl ?_
          refine Zp.getV k_123_12 rfl (zlt rfl) m_0 hk ?_
          refine Zp.iload_n k_123_15 rfl ?_
          refine Zp.ishr k_123_16 ?_
          refine Zp.iconst (nI 1) k_123_17 (by decide) ?_
          refine Zp.iand k_123_18 ?_
          rw [bt _ (by decide)]
          refine Zp.if_neN k_123_19 (by omega) (fun c_19 => ?_) (fun c_19 => absurd c_19 (by omega))
          refine Zp.aload_n k_123_25 rfl ?_
          refine Zp.getR k_123_26 rfl (zlt rfl) m_0 r_0_0 ?_
          refine Zp.aload_n k_123_29 rfl ?_
          refine Zp.getR k_123_30 rfl (zlt rfl) m_0 r_0_1 ?_
          refine Zp.iload_n k_123_33 rfl ?_
          refine Zp.aald 1 k_123_34 m_14 (by decide) rfl (by decide) (zlt rfl) r_14_1 ?_
          refine Zp.callv1V v_1 k_123_35 m_1 (Nat.le_of_ble_eq_true rfl) (Nat.le_of_ble_eq_true rfl) (c_Kitchen_copyFrom ka_1 ka_72 (by omega) (hi1 (by omega)) w1.1 (fun I2 kp2 f2 => ⟨rfl, ?_⟩))
          refine Zp.aload_n k_123_38 rfl ?_
          refine Zp.getR k_123_39 rfl (zlt rfl) m_0 r_0_0 ?_
          refine Zp.getR k_123_42 rfl (zlt rfl) m_1 r_1_0 ?_
          refine Zp.getV k_123_45 rfl (zlt rfl) m_2 kp2.1.2.2.2.2.1 ?_
          refine Zp.iret _ k_123_48 vr_123 rfl ?_
          exact hq _ (pc.now kp2 (fun q h => f2 q (by omega))) (fun q h => f2 q (by omega))
        · obtain ⟨m3, ⟨mp, xp⟩, m4, ms1, ms2, ms3, mk0, mk1, mi0, mi1, mt, mb, mf, mr, mh⟩ := id pm
          refine Zm.go [some (.ref _), some (.int _)] vl_222 rfl ?_
          refine Zp.iload_n k_222_0 rfl ?_
          refine Zp.i2l k_222_1 ?_
          refine Zp.lconst (lN 0) k_222_2 (by decide) ?_
          refine Zp.lconst (lN 1) k_222_3 (by decide) ?_
          refine Zp.calls3I vs_131 k_222_4 (Nat.le_of_ble_eq_true rfl) (Nat.le_of_ble_eq_true rfl) (c_in (zi2n (by omega)) (lN_z (by decide)) (lN_z (by decide)) ⟨_, rfl, ?_⟩)
          refine Zp.if_neB k_222_7 (fun c_7 => ?_) (fun c_7 => absurd c_7 (by omega))
          refine Zp.aload_n k_222_12 rfl ?_
          refine Zp.getR k_222_13 rfl (zlt rfl) m_93 r_93_2 ?_
          refine Zp.iload_n k_222_16 rfl ?_
          refine Zp.zald _ k_222_17 m_96 rfl (by omega) (zlt rfl) mk1 ?_
          refine Zp.if_neN k_222_18 (by omega) (fun c_18 => ?_) (fun c_18 => absurd c_18 (by omega))
          refine Zp.aload_n k_222_24 rfl ?_
          refine Zp.iconst (nI 0) k_222_25 (by decide) ?_
          refine Zp.bipush (nI 58) k_222_26 (by decide) ?_
          refine Zp.iload_n k_222_28 rfl ?_
          refine Zp.iconst (nI 1) k_222_29 (by decide) ?_
          refine Zp.iaddN k_222_30 ?_
          refine Zp.imulN k_222_31 ?_
          refine Zp.callv2V v_220 k_222_32 m_93 (Nat.le_of_ble_eq_true rfl) (Nat.le_of_ble_eq_true rfl) (c_copiesM (by decide) (by decide) (by decide) (fun I2 g1 g2 g3 => ⟨rfl, ?_⟩))
          have kn : Km (I2 94) (a1 A) := (mi1 (by omega)).fr w1.1 fun j hj => (congrArg (I2 94) (Nat.zero_add j).symm).trans (g1 j hj)
          refine Zp.aload_n k_222_35 rfl ?_
          refine Zp.getR k_222_36 rfl (zlt rfl) m_93 r_93_0 ?_
          refine Zp.bipush (nI 33) k_222_39 (by decide) ?_
          refine Zp.iald _ k_222_41 m_94 rfl (by omega) (zlt rfl) kn.1.2.2.2.2.2.1 ?_
          refine Zp.iret _ k_222_42 vr_222 rfl ?_
          exact hq _ _ (pm.st ho w1.2 kn (fun j hj => g2 j (by omega)) (fun q h _ => g3 q h)) (fun q h => g3 q (by omega))
  · refine ⟨.int (-1), A, ho, fun I L Q pc hq => ?_, fun I L Q pm hq => ?_⟩
    · obtain ⟨⟨hp, lp, pp, ep⟩, hk, hi0, hi1, ht, hb, hf, hr, hh⟩ := id pc
      refine Zm.go [some (.ref _), some (.int _)] vl_123 rfl ?_
      refine Zp.iload_n k_123_0 rfl ?_
      refine Zp.iconst (nI 0) k_123_1 (by decide) ?_
      refine Zp.iconst (nI 1) k_123_2 (by decide) ?_
      refine Zp.calls3I vs_129 k_123_3 (Nat.le_of_ble_eq_true rfl) (Nat.le_of_ble_eq_true rfl) (c_isWithin rfl (nI_toInt (by omega)) (nI_toInt (by omega)) ⟨_, rfl, ?_⟩)
      refine Zp.if_neB k_123_6 (fun c_6 => absurd c_6 (by omega)) (fun c_6 => ?_)
      refine Zp.iconst (-1) k_123_9 (by decide) ?_
      refine Zp.iret _ k_123_10 vr_123 rfl ?_
      exact hq I pc (FrC.rf I)
    · obtain ⟨m3, ⟨mp, xp⟩, m4, ms1, ms2, ms3, mk0, mk1, mi0, mi1, mt, mb, mf, mr, mh⟩ := id pm
      refine Zm.go [some (.ref _), some (.int _)] vl_222 rfl ?_
      refine Zp.iload_n k_222_0 rfl ?_
      refine Zp.i2l k_222_1 ?_
      refine Zp.lconst (lN 0) k_222_2 (by decide) ?_
      refine Zp.lconst (lN 1) k_222_3 (by decide) ?_
      refine Zp.calls3I vs_131 k_222_4 (Nat.le_of_ble_eq_true rfl) (Nat.le_of_ble_eq_true rfl) (c_in (zi2l _) (lN_z (by decide)) (lN_z (by decide)) ⟨_, rfl, ?_⟩)
      refine Zp.if_neB k_222_7 (fun c_7 => absurd c_7 (by omega)) (fun c_7 => ?_)
      refine Zp.iconst (-1) k_222_10 (by decide) ?_
      refine Zp.iret _ k_222_11 vr_222 rfl ?_
      first | exact hq I L pm (FrM.rf I) | exact hq I2 L pm2 (fun q hq => s2 q (by omega))
end IMAGES
