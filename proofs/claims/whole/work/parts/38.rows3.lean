/-! ROWS OF PAIRS: the best, the fewest; class -/
/-- of two soups, whether the first one is better -/
def bttr (T U : zSo) : Prop := sdone U < sdone T ∨ sdone T = sdone U ∧ sm (sht T) 25 < sm (sht U) 25
/-- the best row among the first i and one -/
def bsF (S : zSo) (n : Nat) : Nat → Nat
  | 0 => 0
  | i + 1 => if sdone (rT S n (bsF S n i)) < sdone (rT S n (i + 1)) ∨ sdone (rT S n (i + 1)) = sdone (rT S n (bsF S n i)) ∧ sm (sht (rT S n (i + 1))) 25 < sm (sht (rT S n (bsF S n i))) 25 then i + 1 else bsF S n i
theorem rT_o {S : zSo} (ho : So S) (n r : Nat) : So (rT S n r) := plG_o ho _ _
theorem rT_n (S : zSo) (n r : Nat) : sneed (rT S n r) = sneed S := (plG_n S _ n).2.1
theorem rT_sm {S : zSo} (ho : So S) (n r : Nat) : sm (sht (rT S n r)) 25 ≤ 225 := sm_le (m := 9) (rT_o ho n r).2.2.2.2.2.2 25
/-- the first of i rows that does what is needed -/
def fwR (S : zSo) (n : Nat) : Nat → Option Nat
  | 0 => none
  | i + 1 => match fwR S n i with
    | some r => some r
    | none => if sneed S ≤ sdone (rT S n i) then some i else none
theorem fwR_st {S : zSo} {n i r : Nat} (h : fwR S n i = some r) : ∀ k, fwR S n (i + k) = some r
  | 0 => h
  | k + 1 => by
    have ih := fwR_st h k
    show (match fwR S n (i + k) with
      | some r => some r
      | none => if sneed S ≤ sdone (rT S n (i + k)) then some (i + k) else none) = some r
    rw [ih]
theorem fwR_yes {S : zSo} {n i : Nat} (h : fwR S n i = none) (hd : sneed S ≤ sdone (rT S n i)) : fwR S n (i + 1) = some i := by
  show (match fwR S n i with
      | some r => some r
      | none => if sneed S ≤ sdone (rT S n i) then some i else none) = some i
  rw [h]
  exact if_pos hd
theorem fwR_no {S : zSo} {n i : Nat} (h : fwR S n i = none) (hd : ¬ sneed S ≤ sdone (rT S n i)) : fwR S n (i + 1) = none := by
  show (match fwR S n i with
      | some r => some r
      | none => if sneed S ≤ sdone (rT S n i) then some i else none) = none
  rw [h]
  exact if_neg hd
/-- the fewest pairs, fewer than n, and the first row of so many -/
def fwN (S : zSo) : Nat → Option (Nat × Nat)
  | 0 => none
  | n + 1 => match fwN S n with
    | some x => some x
    | none => (fwR S n (np (sn S) ^ n)).map fun r => (n, r)
theorem fwN_st {S : zSo} {n : Nat} {x : Nat × Nat} (h : fwN S n = some x) : ∀ k, fwN S (n + k) = some x
  | 0 => h
  | k + 1 => by
    have ih := fwN_st h k
    show (match fwN S (n + k) with
      | some x => some x
      | none => (fwR S (n + k) (np (sn S) ^ (n + k))).map fun r => (n + k, r)) = some x
    rw [ih]
theorem fwN_yes {S : zSo} {n i : Nat} (h : fwN S n = none) (hr : fwR S n (np (sn S) ^ n) = some i) : fwN S (n + 1) = some (n, i) := by
  show (match fwN S n with
      | some x => some x
      | none => (fwR S n (np (sn S) ^ n)).map fun r => (n, r)) = some (n, i)
  rw [h, hr]
  rfl
theorem fwN_no {S : zSo} {n : Nat} (h : fwN S n = none) (hr : fwR S n (np (sn S) ^ n) = none) : fwN S (n + 1) = none := by
  show (match fwN S n with
      | some x => some x
      | none => (fwR S n (np (sn S) ^ n)).map fun r => (n, r)) = none
  rw [h, hr]
  rfl
theorem fwN_lt {S : zSo} : ∀ n x, fwN S n = some x → x.1 < n
  | 0, x, h => by unfold fwN at h; exact absurd h (by simp)
  | n + 1, x, h => by
    cases h1 : fwN S n with
    | some y =>
      have h2 := fwN_st h1 1
      rw [h2] at h
      have e := Option.some.inj h
      have := fwN_lt n y h1
      rw [← e]
      omega
    | none =>
      cases h3 : fwR S n (np (sn S) ^ n) with
      | none => rw [fwN_no h1 h3] at h; exact absurd h (by simp)
      | some i =>
        rw [fwN_yes h1 h3] at h
        have e := Option.some.inj h
        rw [← e]
        exact Nat.lt_succ_self n
section ROWS2
variable {G : zG} {I : zI} {L : zJ} {Q : zP} {S : zSo} {n r : Nat}
theorem rN_le (S : zSo) (n : Nat) : rN S n ≤ n := by unfold rN; split <;> omega
theorem rN_pos {S : zSo} {n : Nat} (h : 0 < rN S n) : 0 < np (sn S) := by
  unfold rN at h
  split at h
  · omega
  · omega
theorem rN_pw (S : zSo) (n : Nat) : 0 < np (sn S) ^ rN S n := by
  unfold rN
  split
  · exact Nat.lt_succ_self 0
  · exact Nat.pow_pos (by omega)
theorem c_foundPair {x : Int32} {m : Nat} {f : Nat → Nat} (h2 : I 34 2 = nI m) (hm : m ≤ 4) (hf : ∀ i, i < m → I 35 i = nI (f i)) (h1 : ∀ i : Nat, x.toInt = i → i < m → Q (some (.int (nI (f i)))) I L) (h0 : ¬ (0 ≤ x.toInt ∧ x.toInt < m) → Q (some (.int (-4))) I L) : Zm G 29 [.ref 34, .int x] I L Q := by
  by_cases w : 0 ≤ x.toInt ∧ x.toInt < m
  · obtain ⟨i, hi, rfl, ei⟩ := zin_nI w.1 w.2
    refine Zm.go [some (.ref _), some (.int _)] vl_29 rfl ?_
    refine Zp.iload_n k_29_0 rfl ?_
    refine Zp.if_ltN k_29_1 (by omega) ?_
    refine Zp.iload_n k_29_4 rfl ?_
    refine Zp.aload_n k_29_5 rfl ?_
    refine Zp.getV k_29_6 rfl (zlt rfl) m_34 h2 ?_
    refine Zp.icmp_geN k_29_9 (by omega) (by omega) (fun c_9 => absurd c_9 (by omega)) (fun c_9 => ?_)
    refine Zp.aload_n k_29_12 rfl ?_
    refine Zp.getR k_29_13 rfl (zlt rfl) m_34 r_34_3 ?_
    refine Zp.iload_n k_29_16 rfl ?_
    refine Zp.iald _ k_29_17 m_35 rfl (by omega) (zlt rfl) (hf i hi) ?_
    refine Zp.goto k_29_18 ?_
    refine Zp.iret _ k_29_23 vr_29 rfl ?_
    exact h1 i ei hi
  · refine Zm.go [some (.ref _), some (.int _)] vl_29 rfl ?_
    refine Zp.iload_n k_29_0 rfl ?_
    refine Zp.if_ltZ _ k_29_1 rfl (fun c_1 => ?_) (fun c_1 => ?_)
    · refine Zp.bipush (-4) k_29_21 (by decide) ?_
      refine Zp.iret _ k_29_23 vr_29 rfl ?_
      exact h0 w
    · refine Zp.iload_n k_29_4 rfl ?_
      refine Zp.aload_n k_29_5 rfl ?_
      refine Zp.getV k_29_6 rfl (zlt rfl) m_34 h2 ?_
      refine Zp.icmp_geZ _ _ k_29_9 rfl (nI_toInt (by omega)) (fun c_9 => ?_) (fun c_9 => ?_)
      · refine Zp.bipush (-4) k_29_21 (by decide) ?_
        refine Zp.iret _ k_29_23 vr_29 rfl ?_
        exact h0 w
      · exfalso; omega
/-- the rows found: their numbers -/
def Rf (I : zI) (S : zSo) (n r : Nat) : Prop := I 34 0 = nI (sdone (rT S n r)) ∧ I 34 1 = nI (sm (sht (rT S n r)) 25) ∧ I 34 2 = nI n ∧ ∀ i, i < n → I 35 i = nI (rwP (sn S) n r i)
theorem c_seekBest (hp : Sp I 2 S) (ho : So S) (hst : sstep S < 2 ^ 20) (hn : n ≤ 4) (hq : ∀ I', Rf I' S (rN S n) (bsF S (rN S n) (np (sn S) ^ rN S n - 1)) → (∀ q, q < 34 ∨ 53 < q → I' q = I q) → Q none I' L) : Zm G 27 [.ref 34, .ref 2, .int (nI n)] I L Q := by
  have o1 := ho.1
  have hP := (cn_0 (sn S) (by omega)).2.2
  have hr := rN_le S n
  have hpw := pw_le hP (show rN S n ≤ 4 by omega)
  have hp0 := rN_pw S n
  have hs4 := rs_at (rN S n) (by omega)
  have loop : ∀ k i (I1 : zI), i + k = np (sn S) ^ rN S n - 1 → Rw I1 S (rN S n) i → Rf I1 S (rN S n) (bsF S (rN S n) i) → (∀ q, q < 34 ∨ 53 < q → I1 q = I q) → ∀ u : Int32, u.toInt = k → Zp G 27 17 [some (.ref 34), some (.ref 2), some (.int (nI n)), some (.int u), none] [] I1 L Q := by
    intro k
    induction k with
    | zero =>
      intro i I1 hi w f fr u hu
      have e : i = np (sn S) ^ rN S n - 1 := by omega
      subst e
      refine Zp.iload_n k_27_17 rfl ?_
      refine Zp.if_leZ _ k_27_18 rfl (fun c_18 => ?_) (fun c_18 => absurd c_18 (by omega))
      refine Zp.vret k_27_82 vr_27 ?_
      exact hq I1 f fr
    | succ k ih =>
      intro i I1 hi w f fr u hu
      have eu : u = nI (k + 1) := by rw [z_nI (x := u) (by omega), hu]; congr 1
      subst eu
      have nx : ∀ I3 : zI, Rw I3 S (rN S n) (i + 1) → Rf I3 S (rN S n) (bsF S (rN S n) (i + 1)) → (∀ q, q < 34 ∨ 53 < q → I3 q = I1 q) → Zp G 27 76 [some (.ref 34), some (.ref 2), some (.int (nI n)), some (.int (nI (k + 1))), some (.ref (39 + 3 * rN S n))] [] I3 L Q := by
        intro I3 w3 f3 fr3
        refine Zp.iinc _ [some (.ref _), some (.ref _), some (.int _), some (.int _), some (.ref _)] k_27_76 rfl rfl (Nat.lt_of_lt_of_eq (zlt rfl : 3 < 5) vl_27.symm) rfl ?_
        refine Zp.goto k_27_79 ?_
        exact Zp.locs _ (zle_sub (by simp [zle])) (ih (i + 1) I3 (by omega) w3 f3 (fun q h => (fr3 q h).trans (fr q h)) (nI (k + 1) + Int32.ofInt (-1)) (by rw [idec (by omega)]; omega))
      have hb : bsF S (rN S n) (i + 1) = if sdone (rT S (rN S n) (bsF S (rN S n) i)) < sdone (rT S (rN S n) (i + 1)) ∨ sdone (rT S (rN S n) (i + 1)) = sdone (rT S (rN S n) (bsF S (rN S n) i)) ∧ sm (sht (rT S (rN S n) (i + 1))) 25 < sm (sht (rT S (rN S n) (bsF S (rN S n) i))) 25 then i + 1 else bsF S (rN S n) i := rfl
      have d1 := (rT_o ho (rN S n) (i + 1)).2.2.2.1
      have d2 := (rT_o ho (rN S n) (bsF S (rN S n) i)).2.2.2.1
      have d3 := rT_sm ho (rN S n) (i + 1)
      have d4 := rT_sm ho (rN S n) (bsF S (rN S n) i)
      refine Zp.iload_n k_27_17 rfl ?_
      refine Zp.if_leN k_27_18 (by omega) (fun c_18 => absurd c_18 (by omega)) (fun c_18 => ?_)
      refine Zp.aload_n k_27_21 rfl ?_
      refine Zp.callv0V v_33 k_27_22 m_34 (Nat.le_of_ble_eq_true rfl) (Nat.le_of_ble_eq_true rfl) (c_advance w ho hst (by omega) hP (fun h => rN_pos h) (fun I2 w2 fr2 => ⟨rfl, ?_⟩))
      have w2' := w2 (by omega)
      have sp2 : Sp I2 (39 + 3 * rN S n) (rT S (rN S n) (i + 1)) := w2'.2.2.2.2 _ (Nat.le_refl _)
      have q34 : I2 34 = I1 34 := fr2 34 (by decide) (by decide)
      have q35 : I2 35 = I1 35 := fr2 35 (by decide) (by decide)
      have f2 : Rf I2 S (rN S n) (bsF S (rN S n) i) := by unfold Rf at f ⊢; rw [q34, q35]; exact f
      refine Zp.aload_n k_27_25 rfl ?_
      refine Zp.getR k_27_26 rfl (zlt rfl) m_34 r_34_8 ?_
      refine Zp.aload_n k_27_29 rfl ?_
      refine Zp.getV k_27_30 rfl (zlt rfl) m_34 w2'.2.1 ?_
      refine Zp.aald (rN S n) k_27_33 m_38 (by decide) rfl (by omega) (zlt rfl) (rr_at (rN S n) (by omega)) ?_
      refine Zp.astore [some (.ref _), some (.ref _), some (.int _), some (.int _), some (.ref _)] (by omega) k_27_34 (Nat.lt_of_lt_of_eq (zlt rfl : 4 < 5) vl_27.symm) rfl ?_
      refine Zp.aload (by omega) k_27_36 rfl ?_
      refine Zp.getV k_27_38 rfl (zlt rfl) hs4.1 sp2.2.2.2.2.1 ?_
      refine Zp.aload_n k_27_41 rfl ?_
      refine Zp.getV k_27_42 rfl (zlt rfl) m_34 f2.1 ?_
      refine Zp.icmp_gtN k_27_45 (by omega) (by omega) (fun c_45 => ?_) (fun c_45 => ?_)
      · refine Zp.aload_n k_27_72 rfl ?_
        refine Zp.callv0V v_35 k_27_73 m_34 (Nat.le_of_ble_eq_true rfl) (Nat.le_of_ble_eq_true rfl) (c_takeRow w2' ho (by omega) hP (fun h => rN_pos h) (fun I3 t0 t1 t2 t35 w3 fr3 => ⟨rfl, ?_⟩))
        first | exact nx I3 w3 (by rw [hb, if_pos (by omega)]; exact ⟨t0, t1, t2, t35⟩) (fun q h => (fr3 q (by omega) (by omega)).trans (fr2 q (by omega) (by omega))) | exact nx I2 w2' (by rw [hb, if_neg (by omega)]; exact f2) (fun q h => fr2 q (by omega) (by omega))
      · refine Zp.aload (by omega) k_27_48 rfl ?_
        refine Zp.getV k_27_50 rfl (zlt rfl) hs4.1 sp2.2.2.2.2.1 ?_
        refine Zp.aload_n k_27_53 rfl ?_
        refine Zp.getV k_27_54 rfl (zlt rfl) m_34 f2.1 ?_
        refine Zp.icmp_neN k_27_57 (by omega) (by omega) (fun c_57 => ?_) (fun c_57 => ?_)
        · first | exact nx I3 w3 (by rw [hb, if_pos (by omega)]; exact ⟨t0, t1, t2, t35⟩) (fun q h => (fr3 q (by omega) (by omega)).trans (fr2 q (by omega) (by omega))) | exact nx I2 w2' (by rw [hb, if_neg (by omega)]; exact f2) (fun q h => fr2 q (by omega) (by omega))
        · refine Zp.aload (by omega) k_27_60 rfl ?_
          refine Zp.callv0I v_67 k_27_62 hs4.1 (Nat.le_of_ble_eq_true rfl) (Nat.le_of_ble_eq_true rfl) (c_allHatred hs4 sp2 (rT_o ho (rN S n) (i + 1)) ⟨_, rfl, ?_⟩)
          refine Zp.aload_n k_27_65 rfl ?_
          refine Zp.getV k_27_66 rfl (zlt rfl) m_34 f2.2.1 ?_
          refine Zp.icmp_geN k_27_69 (by omega) (by omega) (fun c_69 => ?_) (fun c_69 => ?_)
          · first | exact nx I3 w3 (by rw [hb, if_pos (by omega)]; exact ⟨t0, t1, t2, t35⟩) (fun q h => (fr3 q (by omega) (by omega)).trans (fr2 q (by omega) (by omega))) | exact nx I2 w2' (by rw [hb, if_neg (by omega)]; exact f2) (fun q h => fr2 q (by omega) (by omega))
          · refine Zp.aload_n k_27_72 rfl ?_
            refine Zp.callv0V v_35 k_27_73 m_34 (Nat.le_of_ble_eq_true rfl) (Nat.le_of_ble_eq_true rfl) (c_takeRow w2' ho (by omega) hP (fun h => rN_pos h) (fun I3 t0 t1 t2 t35 w3 fr3 => ⟨rfl, ?_⟩))
            first | exact nx I3 w3 (by rw [hb, if_pos (by omega)]; exact ⟨t0, t1, t2, t35⟩) (fun q h => (fr3 q (by omega) (by omega)).trans (fr2 q (by omega) (by omega))) | exact nx I2 w2' (by rw [hb, if_neg (by omega)]; exact f2) (fun q h => fr2 q (by omega) (by omega))
  refine Zm.go [some (.ref _), some (.ref _), some (.int _), none, none] vl_27 rfl ?_
  refine Zp.aload_n k_27_0 rfl ?_
  refine Zp.aload_n k_27_1 rfl ?_
  refine Zp.iload_n k_27_2 rfl ?_
  refine Zp.callv2V v_30 k_27_3 m_34 (Nat.le_of_ble_eq_true rfl) (Nat.le_of_ble_eq_true rfl) (c_begin rfl hp ho hst hn (fun I1 w1 fr1 => ⟨rfl, ?_⟩))
  refine Zp.aload_n k_27_6 rfl ?_
  refine Zp.callv0V v_35 k_27_7 m_34 (Nat.le_of_ble_eq_true rfl) (Nat.le_of_ble_eq_true rfl) (c_takeRow w1 ho (by omega) hP (fun h => rN_pos h) (fun I2 t0 t1 t2 t35 w2 fr2 => ⟨rfl, ?_⟩))
  refine Zp.aload_n k_27_10 rfl ?_
  refine Zp.callv0I v_32 k_27_11 m_34 (Nat.le_of_ble_eq_true rfl) (Nat.le_of_ble_eq_true rfl) (c_rowCount w2 (by omega) hP ⟨_, rfl, ?_⟩)
  refine Zp.iconst (nI 1) k_27_14 (by decide) ?_
  refine Zp.isubN k_27_15 (by omega) ?_
  refine Zp.istore_n [some (.ref _), some (.ref _), some (.int _), some (.int _), none] k_27_16 (Nat.lt_of_lt_of_eq (zlt rfl : 3 < 5) vl_27.symm) rfl ?_
  exact loop (np (sn S) ^ rN S n - 1) 0 I2 (by omega) w2 ⟨t0, t1, t2, t35⟩ (fun q h => (fr2 q (by omega) (by omega)).trans (fr1 q h)) _ (nI_toInt (by omega))
theorem c_seekFewest (hp : Sp I 2 S) (ho : So S) (hst : sstep S < 2 ^ 20)
    (hno : fwN S 5 = none → ∀ I', (∀ q, q < 34 ∨ 53 < q → I' q = I q) → Q (some (.int (nI 0))) I' L)
    (hyes : ∀ m i I', fwN S 5 = some (m, i) → Rf I' S m i → (∀ q, q < 34 ∨ 53 < q → I' q = I q) → Q (some (.int (nI 1))) I' L) : Zm G 28 [.ref 34, .ref 2] I L Q := by
  obtain ⟨o1, o2, o3, o4, o5⟩ := id ho
  have hP := (cn_0 (sn S) (by omega)).2.2
  have rows : ∀ m, m ≤ 4 → (∀ i, fwR S m (np (sn S) ^ m) = some i → np (sn S) ≠ 0 ∨ m = 0 → ∀ I', Rf I' S m i → (∀ q, q < 34 ∨ 53 < q → I' q = I q) → Q (some (.int (nI 1))) I' L) →
      (np (sn S) = 0 → 0 < m → ¬ sneed S ≤ sdone S) →
      (∀ I2 (u : Int32), (np (sn S) ≠ 0 ∨ m = 0 → fwR S m (np (sn S) ^ m) = none) → (∀ q, q < 34 ∨ 53 < q → I2 q = I q) → Zp G 28 57 [some (.ref 34), some (.ref 2), some (.int (nI m)), some (.int u)] [] I2 L Q) →
      ∀ k i (I1 : zI), i + k = np (sn S) ^ rN S m → (i < np (sn S) ^ rN S m → Rw I1 S (rN S m) i) → (np (sn S) ≠ 0 ∨ m = 0 → fwR S m i = none) → (∀ q, q < 34 ∨ 53 < q → I1 q = I q) → ∀ u : Int32, u.toInt = k → Zp G 28 18 [some (.ref 34), some (.ref 2), some (.int (nI m)), some (.int u)] [] I1 L Q := by
    intro m hm hfnd hnul hend k
    have hr := rN_le S m
    have hpw := pw_le hP (show rN S m ≤ 4 by omega)
    have hs4 := rs_at (rN S m) (by omega)
    have rNe : np (sn S) ≠ 0 ∨ m = 0 → rN S m = m := fun z => by unfold rN; split <;> omega
    induction k with
    | zero =>
      intro i I1 hi w hf fr u hu
      have e : i = np (sn S) ^ rN S m := by omega
      subst e
      refine Zp.iload_n k_28_18 rfl ?_
      refine Zp.if_leZ _ k_28_19 rfl (fun c_19 => ?_) (fun c_19 => absurd c_19 (by omega))
      exact hend I1 u (fun z => by have := hf z; rw [rNe z] at this; exact this) fr
    | succ k ih =>
      intro i I1 hi w hf fr u hu
      have eu : u = nI (k + 1) := by rw [z_nI (x := u) (by omega), hu]; congr 1
      subst eu
      have w1 := w (by omega)
      have sp1 : Sp I1 (39 + 3 * rN S m) (rT S (rN S m) i) := w1.2.2.2.2 _ (Nat.le_refl _)
      have hp1 : Sp I1 2 S := hp.fr (fr 2 (by decide)) (fr 3 (by decide)) (fr 4 (by decide))
      have d1 := (rT_o ho (rN S m) i).2.2.2.1
      refine Zp.iload_n k_28_18 rfl ?_
      refine Zp.if_leN k_28_19 (by omega) (fun c_19 => absurd c_19 (by omega)) (fun c_19 => ?_)
      refine Zp.aload_n k_28_22 rfl ?_
      refine Zp.getR k_28_23 rfl (zlt rfl) m_34 r_34_8 ?_
      refine Zp.aload_n k_28_26 rfl ?_
      refine Zp.getV k_28_27 rfl (zlt rfl) m_34 w1.2.1 ?_
      refine Zp.aald (rN S m) k_28_30 m_38 (by decide) rfl (by omega) (zlt rfl) (rr_at (rN S m) (by omega)) ?_
      refine Zp.getV k_28_31 rfl (zlt rfl) hs4.1 sp1.2.2.2.2.1 ?_
      refine Zp.aload_n k_28_34 rfl ?_
      refine Zp.getV k_28_35 rfl (zlt rfl) m_2 hp1.2.1 ?_
      refine Zp.icmp_ltN k_28_38 (by omega) (by omega) (fun c_38 => ?_) (fun c_38 => ?_)
      · refine Zp.aload_n k_28_47 rfl ?_
        refine Zp.callv0V v_33 k_28_48 m_34 (Nat.le_of_ble_eq_true rfl) (Nat.le_of_ble_eq_true rfl) (c_advance w1 ho hst (by omega) hP (fun h => rN_pos h) (fun I2 w2 fr2 => ⟨rfl, ?_⟩))
        refine Zp.iinc _ [some (.ref _), some (.ref _), some (.int _), some (.int _)] k_28_51 rfl rfl (Nat.lt_of_lt_of_eq (zlt rfl : 3 < 4) vl_28.symm) rfl ?_
        refine Zp.goto k_28_54 ?_
        exact ih (i + 1) I2 (by omega) (fun h => w2 h) (fun z => by
          have e := rNe z
          rw [e] at c_38
          exact fwR_no (hf z) (by omega)) (fun q h => (fr2 q (by omega) (by omega)).trans (fr q h)) _ (by rw [idec (by omega)]; omega)
      · refine Zp.aload_n k_28_41 rfl ?_
        refine Zp.callv0V v_35 k_28_42 m_34 (Nat.le_of_ble_eq_true rfl) (Nat.le_of_ble_eq_true rfl) (c_takeRow w1 ho (by omega) hP (fun h => rN_pos h) (fun I3 t0 t1 t2 t35 w3 fr3 => ⟨rfl, ?_⟩))
        refine Zp.iconst (nI 1) k_28_45 (by decide) ?_
        refine Zp.iret _ k_28_46 vr_28 rfl ?_
        by_cases z : np (sn S) ≠ 0 ∨ m = 0
        · have e := rNe z
          rw [e] at t0 t1 t2 t35 c_38 hi
          have y := fwR_st (fwR_yes (hf z) (by omega)) k
          rw [show i + 1 + k = np (sn S) ^ m by omega] at y
          exact hfnd i y z I3 ⟨t0, t1, t2, t35⟩ (fun q h => (fr3 q (by omega) (by omega)).trans (fr q h))
        · exfalso
          have e : rN S m = 0 := if_pos (by omega)
          rw [e] at c_38
          have c9 : ¬ sneed S ≤ sdone S := hnul (by omega) (by omega)
          exact c9 (by have : ¬ sdone S < sneed S := c_38; omega)
  have null : np (sn S) = 0 → ∀ m, 0 < m → fwR S m (np (sn S) ^ m) = none := fun z m hm => by
    rw [z, Nat.zero_pow hm]
    rfl
  have first1 : np (sn S) = 0 → fwN S 1 = none → ¬ sneed S ≤ sdone S := fun z h hd => by
    have : fwR S 0 (np (sn S) ^ 0) = some 0 := fwR_yes rfl hd
    rw [fwN_yes rfl this] at h
    exact absurd h (by simp)
  have loop : ∀ k m (I1 : zI) (u : Option Value), m + k = 5 → fwN S m = none → (∀ q, q < 34 ∨ 53 < q → I1 q = I q) → Zp G 28 2 [some (.ref 34), some (.ref 2), some (.int (nI m)), none] [] I1 L Q := by
    intro k
    induction k with
    | zero =>
      intro m I1 u hm hf fr
      have e : m = 5 := by omega
      subst e
      refine Zp.iload_n k_28_2 rfl ?_
      refine Zp.iconst (nI 4) k_28_3 (by decide) ?_
      refine Zp.icmp_gtN k_28_4 (by omega) (by omega) (fun c_4 => ?_) (fun c_4 => absurd c_4 (by omega))
      refine Zp.iconst (nI 0) k_28_63 (by decide) ?_
      refine Zp.iret _ k_28_64 vr_28 rfl ?_
      exact hno hf I1 fr
    | succ k ih =>
      intro m I1 u hm hf fr
      have hp1 : Sp I1 2 S := hp.fr (fr 2 (by decide)) (fr 3 (by decide)) (fr 4 (by decide))
      have hrl := rN_le S m
      have hpw := pw_le hP (show rN S m ≤ 4 by omega)
      have nxt : ∀ I2 (u : Int32), fwR S m (np (sn S) ^ m) = none → (∀ q, q < 34 ∨ 53 < q → I2 q = I q) → Zp G 28 57 [some (.ref 34), some (.ref 2), some (.int (nI m)), some (.int u)] [] I2 L Q := by
        intro I2 u hfn fr2
        refine Zp.iinc (nI (_ + 1)) [some (.ref _), some (.ref _), some (.int _), some (.int _)] k_28_57 rfl (nI_1 _) (Nat.lt_of_lt_of_eq (zlt rfl : 2 < 4) vl_28.symm) rfl ?_
        refine Zp.goto k_28_60 ?_
        exact Zp.locs _ (zle_sub (by simp [zle])) (ih (m + 1) I2 none (by omega) (fwN_no hf hfn) fr2)
      refine Zp.iload_n k_28_2 rfl ?_
      refine Zp.iconst (nI 4) k_28_3 (by decide) ?_
      refine Zp.icmp_gtN k_28_4 (by omega) (by omega) (fun c_4 => absurd c_4 (by omega)) (fun c_4 => ?_)
      refine Zp.aload_n k_28_7 rfl ?_
      refine Zp.aload_n k_28_8 rfl ?_
      refine Zp.iload_n k_28_9 rfl ?_
      refine Zp.callv2V v_30 k_28_10 m_34 (Nat.le_of_ble_eq_true rfl) (Nat.le_of_ble_eq_true rfl) (c_begin rfl hp1 ho hst (by omega) (fun I2 w2 fr2 => ⟨rfl, ?_⟩))
      refine Zp.aload_n k_28_13 rfl ?_
      refine Zp.callv0I v_32 k_28_14 m_34 (Nat.le_of_ble_eq_true rfl) (Nat.le_of_ble_eq_true rfl) (c_rowCount w2 (by omega) hP ⟨_, rfl, ?_⟩)
      refine Zp.istore_n [some (.ref _), some (.ref _), some (.int _), some (.int _)] k_28_17 (Nat.lt_of_lt_of_eq (zlt rfl : 3 < 4) vl_28.symm) rfl ?_
      exact rows m (by omega) (fun i y z I3 f3 fr3 => by
        have y2 := fwN_st (fwN_yes hf y) k
        rw [show m + 1 + k = 5 by omega] at y2
        exact hyes m i I3 y2 f3 fr3) (fun z h0 => first1 z (by
        cases h1 : fwN S 1 with
        | none => rfl
        | some x =>
          have h2 := fwN_st h1 (m - 1)
          rw [show 1 + (m - 1) = m by omega, hf] at h2
          exact absurd h2 (by simp))) (fun I3 u h fr3 => nxt I3 u (by
        by_cases z : np (sn S) ≠ 0 ∨ m = 0
        · exact h z
        · exact null (by omega) m (by omega)) fr3) (np (sn S) ^ rN S m) 0 I2 (by omega) (fun _ => w2) (fun _ => rfl) (fun q h => (fr2 q h).trans (fr q h)) _ (nI_toInt (by omega))
  refine Zm.go [some (.ref _), some (.ref _), none, none] vl_28 rfl ?_
  refine Zp.iconst (nI 0) k_28_0 (by decide) ?_
  refine Zp.istore_n [some (.ref _), some (.ref _), some (.int _), none] k_28_1 (Nat.lt_of_lt_of_eq (zlt rfl : 2 < 4) vl_28.symm) rfl ?_
  exact loop 5 0 I none (by omega) rfl (fun _ _ => rfl)
end ROWS2
