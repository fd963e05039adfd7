/-! ROWS OF PAIRS: the class seeks -/
def rN (S : zSo) (n : Nat) : Nat := if np (sn S) = 0 then 0 else n
/-- the soup behind a row -/
def rT (S : zSo) (n r : Nat) : zSo := plG S (rwP (sn S) n r) n
theorem rwP_0 (m n i : Nat) : rwP m n 0 i = pt m 0 := by
  show pt m (0 / np m ^ (n - 1 - i) % np m) = _
  rw [Nat.zero_div, Nat.zero_mod]
theorem zku_r {I : zI} {q k j : Nat} {x v : Int32} (h : j ≠ k) (hv : I q j = v) : zpu I q k x q j = v := by rw [zpu_k _ _ _ h]; exact hv
theorem idec {k : Nat} (h1 : k < 2 ^ 30) : (nI k + Int32.ofInt (-1)).toInt = (k : Int) - 1 := by
  rw [Int32.toInt_add, nI_toInt (by omega), show (Int32.ofInt (-1)).toInt = -1 by decide, Jvm.Kit.bmod32 (by omega) (by omega)]
  omega
def FrR (I I' : zI) : Prop := (∀ q, q ≠ 37 → (q < 39 ∨ 53 < q) → I' q = I q)
section ROWS1
variable {G : zG} {I : zI} {L : zJ} {Q : zP} {S : zSo} {n r : Nat}
theorem c_begin {h : Nat} (hh : h = 2) (hp : Sp I h S) (ho : So S) (hst : sstep S < 2 ^ 20) (hn : n ≤ 4) (hq : ∀ I', Rw I' S (rN S n) 0 → (∀ q, q < 34 ∨ 53 < q → I' q = I q) → Q none I' L) : Zm G 30 [.ref 34, .ref 2, .int (nI n)] I L Q := by
  subst hh
  have o1 := ho.1
  have hP := (cn_0 (sn S) (by omega)).2.2
  have hr : rN S n ≤ n := by unfold rN; split <;> omega
  have hr2 : np (sn S) = 0 → rN S n = 0 := fun z => if_pos z
  have hr3 : np (sn S) ≠ 0 → rN S n = n := fun z => if_neg z
  have loop : ∀ k i (I2 : zI), i + k = rN S n → I2 34 5 = nI (np (sn S)) → I2 34 6 = nI (rN S n) → (∀ j, j < np (sn S) → I2 36 j = nI (pt (sn S) j)) → (∀ j, j < i → I2 37 j = nI 0) → Sp I2 39 S → (∀ q, q < 34 ∨ 53 < q → I2 q = I q) → Zp G 30 36 [some (.ref 34), some (.ref 2), some (.int (nI n)), some (.int (nI i))] [] I2 L Q := by
    intro k
    induction k with
    | zero =>
      intro i I2 hi h5 h6 h36 h37 hs fr
      have e : i = rN S n := by omega
      subst e
      refine Zp.iload_n k_30_36 rfl ?_
      refine Zp.aload_n k_30_37 rfl ?_
      refine Zp.getV k_30_38 rfl (zlt rfl) m_34 h6 ?_
      refine Zp.icmp_geN k_30_41 (by omega) (by omega) (fun c_41 => ?_) (fun c_41 => absurd c_41 (by omega))
      refine Zp.aload_n k_30_57 rfl ?_
      refine Zp.iconst (nI 0) k_30_58 (by decide) ?_
      refine Zp.callv1V v_34 k_30_59 m_34 (Nat.le_of_ble_eq_true rfl) (Nat.le_of_ble_eq_true rfl) (c_stirFrom (f := 0) (d := fun _ => 0) ho hst h6 h36 h37 (fun i hi => by
  show 0 < np (sn S)
  have : np (sn S) ≠ 0 := fun z => by have := hr2 z; omega
  omega) (by omega) (Nat.zero_le _) (fun i hi => by
  have e : i = 0 := by omega
  subst e
  exact hs) (fun I3 s3 f3 => ⟨rfl, ?_⟩))
      refine Zp.vret k_30_62 vr_30 ?_
      refine hq I3 ⟨by rw [f3 34 (by decide)]; exact h5, by rw [f3 34 (by decide)]; exact h6, fun j hj => by rw [f3 36 (by decide)]; exact h36 j hj, fun i hi => ?_, fun i hi => ?_⟩ (fun q h => (f3 q (by omega)).trans (fr q h))
      · rw [f3 37 (by decide), h37 i hi]
        show nI 0 = nI (0 / _ % _)
        rw [Nat.zero_div, Nat.zero_mod]
      · have := s3 i hi
        rw [plG_cong (q := rwP (sn S) (rN S n) 0) i (fun j _ => (rwP_0 (sn S) (rN S n) j).symm)] at this
        exact this
    | succ k ih =>
      intro i I2 hi h5 h6 h36 h37 hs fr
      refine Zp.iload_n k_30_36 rfl ?_
      refine Zp.aload_n k_30_37 rfl ?_
      refine Zp.getV k_30_38 rfl (zlt rfl) m_34 h6 ?_
      refine Zp.icmp_geN k_30_41 (by omega) (by omega) (fun c_41 => absurd c_41 (by omega)) (fun c_41 => ?_)
      refine Zp.aload_n k_30_44 rfl ?_
      refine Zp.getR k_30_45 rfl (zlt rfl) m_34 r_34_7 ?_
      refine Zp.iload_n k_30_48 rfl ?_
      refine Zp.iconst (nI 0) k_30_49 (by decide) ?_
      refine Zp.iast _ k_30_50 m_37 rfl (by omega) (zlt rfl) ?_
      refine Zp.iinc (nI (_ + 1)) [some (.ref _), some (.ref _), some (.int _), some (.int _)] k_30_51 rfl (nI_1 _) (Nat.lt_of_lt_of_eq (zlt rfl : 3 < 4) vl_30.symm) rfl ?_
      refine Zp.goto k_30_54 ?_
      refine ih (i + 1) _ (by omega) (by rw [zpu_q _ _ _ (by decide)]; exact h5) (by rw [zpu_q _ _ _ (by decide)]; exact h6) (fun j hj => by rw [zpu_q _ _ _ (by decide)]; exact h36 j hj) (fun j hj => ?_) (hs.fr (zpu_q _ _ _ (by decide)) (zpu_q _ _ _ (by decide)) (zpu_q _ _ _ (by decide))) (fun q h => by rw [zpu_q _ _ _ (by omega)]; exact fr q h)
      by_cases e : j = i
      · subst e; rw [zpu_s]
      · rw [zpu_k _ _ _ e]; exact h37 j (by omega)
  have mid : ∀ (I1 : zI) (v : Nat), v = rN S n → I1 34 5 = nI (np (sn S)) → (∀ j, j < np (sn S) → I1 36 j = nI (pt (sn S) j)) → (∀ q, q ≠ 34 → q ≠ 36 → I1 q = I q) → Zp G 30 21 [some (.ref 34), some (.ref 2), some (.int (nI n)), none] [.int (nI v), .ref 34] I1 L Q := by
    intro I1 v hv h5 h36 fr
    subst hv
    have hp1 : Sp I1 2 S := hp.fr (fr 2 (by decide) (by decide)) (fr 3 (by decide) (by decide)) (fr 4 (by decide) (by decide))
    refine Zp.putI k_30_21 rfl (zlt rfl) m_34 ?_
    refine Zp.aload_n k_30_24 rfl ?_
    refine Zp.getR k_30_25 rfl (zlt rfl) m_34 r_34_8 ?_
    refine Zp.iconst (nI 0) k_30_28 (by decide) ?_
    refine Zp.aald 0 k_30_29 m_38 (by decide) rfl (by decide) (zlt rfl) r_38_0 ?_
    refine Zp.aload_n k_30_30 rfl ?_
    refine Zp.callv1V v_55 k_30_31 m_39 (Nat.le_of_ble_eq_true rfl) (Nat.le_of_ble_eq_true rfl) (c_Soup_copyFrom sa_39 sa_2 (by omega) (hp1.fr (zpu_q _ _ _ (by decide)) (zpu_q _ _ _ (by decide)) (zpu_q _ _ _ (by decide))) ho (fun I2 s2 f2 => ⟨rfl, ?_⟩))
    refine Zp.iconst (nI 0) k_30_34 (by decide) ?_
    refine Zp.istore_n [some (.ref _), some (.ref _), some (.int _), some (.int _)] k_30_35 (Nat.lt_of_lt_of_eq (zlt rfl : 3 < 4) vl_30.symm) rfl ?_
    refine loop (rN S n) 0 I2 (by omega) ?_ ?_ (fun j hj => ?_) (fun j hj => absurd hj (Nat.not_lt_zero j)) s2 (fun q h => ?_)
    · rw [f2 34 (by decide) (by decide) (by decide), zpu_k _ _ _ (by decide)]; exact h5
    · rw [f2 34 (by decide) (by decide) (by decide), zpu_s]
    · rw [f2 36 (by decide) (by decide) (by decide), zpu_q _ _ _ (by decide)]; exact h36 j hj
    · rw [f2 q (by omega) (by omega) (by omega), zpu_q _ _ _ (by omega)]; exact fr q (by omega) (by omega)
  refine Zm.go [some (.ref _), some (.ref _), some (.int _), none] vl_30 rfl ?_
  refine Zp.aload_n k_30_0 rfl ?_
  refine Zp.aload_n k_30_1 rfl ?_
  refine Zp.getV k_30_2 rfl (zlt rfl) m_2 hp.1 ?_
  refine Zp.callv1V v_31 k_30_5 m_34 (Nat.le_of_ble_eq_true rfl) (Nat.le_of_ble_eq_true rfl) (c_listPairs (by omega) (fun I1 h5 h36 f1 g1 => ⟨rfl, ?_⟩))
  refine Zp.aload_n k_30_8 rfl ?_
  refine Zp.aload_n k_30_9 rfl ?_
  refine Zp.getV k_30_10 rfl (zlt rfl) m_34 h5 ?_
  refine Zp.if_neN k_30_13 (by omega) (fun c_13 => ?_) (fun c_13 => ?_)
  · refine Zp.iload_n k_30_20 rfl ?_
    first | exact mid I1 0 (hr2 (by omega)).symm h5 h36 f1 | exact mid I1 n (hr3 (by omega)).symm h5 h36 f1
  · refine Zp.iconst (nI 0) k_30_16 (by decide) ?_
    refine Zp.goto k_30_17 ?_
    first | exact mid I1 0 (hr2 (by omega)).symm h5 h36 f1 | exact mid I1 n (hr3 (by omega)).symm h5 h36 f1
theorem c_rowCount (rw_ : Rw I S n r) (hn : n ≤ 4) (hP : np (sn S) ≤ 10) (hq : Q (some (.int (nI (np (sn S) ^ n)))) I L) : Zm G 32 [.ref 34] I L Q := by
  obtain ⟨h5, h6, h36, h37, hs⟩ := id rw_
  have loop : ∀ k i, i + k = n → Zp G 32 4 [some (.ref 34), some (.int (nI (np (sn S) ^ i))), some (.int (nI i))] [] I L Q := by
    intro k
    induction k with
    | zero =>
      intro i hi
      have e : i = n := by omega
      subst e
      refine Zp.iload_n k_32_4 rfl ?_
      refine Zp.aload_n k_32_5 rfl ?_
      refine Zp.getV k_32_6 rfl (zlt rfl) m_34 h6 ?_
      refine Zp.icmp_geN k_32_9 (by omega) (by omega) (fun c_9 => ?_) (fun c_9 => absurd c_9 (by omega))
      refine Zp.iload_n k_32_25 rfl ?_
      refine Zp.iret _ k_32_26 vr_32 rfl ?_
      exact hq
    | succ k ih =>
      intro i hi
      refine Zp.iload_n k_32_4 rfl ?_
      refine Zp.aload_n k_32_5 rfl ?_
      refine Zp.getV k_32_6 rfl (zlt rfl) m_34 h6 ?_
      refine Zp.icmp_geN k_32_9 (by omega) (by omega) (fun c_9 => absurd c_9 (by omega)) (fun c_9 => ?_)
      refine Zp.iload_n k_32_12 rfl ?_
      refine Zp.aload_n k_32_13 rfl ?_
      refine Zp.getV k_32_14 rfl (zlt rfl) m_34 h5 ?_
      refine Zp.imulN k_32_17 ?_
      refine Zp.istore_n [some (.ref _), some (.int _), some (.int _)] k_32_18 (Nat.lt_of_lt_of_eq (zlt rfl : 1 < 3) vl_32.symm) rfl ?_
      refine Zp.iinc (nI (_ + 1)) [some (.ref _), some (.int _), some (.int _)] k_32_19 rfl (nI_1 _) (Nat.lt_of_lt_of_eq (zlt rfl : 2 < 3) vl_32.symm) rfl ?_
      refine Zp.goto k_32_22 ?_
      exact ih (i + 1) (by omega)
  refine Zm.go [some (.ref _), none, none] vl_32 rfl ?_
  refine Zp.iconst (nI 1) k_32_0 (by decide) ?_
  refine Zp.istore_n [some (.ref _), some (.int _), none] k_32_1 (Nat.lt_of_lt_of_eq (zlt rfl : 1 < 3) vl_32.symm) rfl ?_
  refine Zp.iconst (nI 0) k_32_2 (by decide) ?_
  refine Zp.istore_n [some (.ref _), some (.int _), some (.int _)] k_32_3 (Nat.lt_of_lt_of_eq (zlt rfl : 2 < 3) vl_32.symm) rfl ?_
  exact loop n 0 (by omega)
theorem c_takeRow (rw_ : Rw I S n r) (ho : So S) (hn : n ≤ 4) (hP : np (sn S) ≤ 10) (hP0 : 0 < n → 0 < np (sn S)) (hq : ∀ I', I' 34 0 = nI (sdone (rT S n r)) → I' 34 1 = nI (sm (sht (rT S n r)) 25) → I' 34 2 = nI n → (∀ i, i < n → I' 35 i = nI (rwP (sn S) n r i)) → Rw I' S n r → (∀ q, q ≠ 34 → q ≠ 35 → I' q = I q) → Q none I' L) : Zm G 35 [.ref 34] I L Q := by
  obtain ⟨h5, h6, h36, h37, hs⟩ := id rw_
  have hsn := rs_at n (by omega)
  have sp := hs n (Nat.le_refl n)
  have ho1 := plG_o ho (rwP (sn S) n r) n
  have loop : ∀ k i (I1 : zI), i + k = n → I1 34 0 = nI (sdone (rT S n r)) → I1 34 1 = nI (sm (sht (rT S n r)) 25) → I1 34 2 = nI n → (∀ j, 3 ≤ j → I1 34 j = I 34 j) → (∀ j, j < i → I1 35 j = nI (rwP (sn S) n r j)) → (∀ q, q ≠ 34 → q ≠ 35 → I1 q = I q) → Zp G 35 42 [some (.ref 34), some (.int (nI i))] [] I1 L Q := by
    intro k
    induction k with
    | zero =>
      intro i I1 hi g0 g1 g2 g3 g35 fr
      have e : i = n := by omega
      subst e
      have g6 : I1 34 6 = nI i := (g3 6 (by decide)).trans h6
      refine Zp.iload_n k_35_42 rfl ?_
      refine Zp.aload_n k_35_43 rfl ?_
      refine Zp.getV k_35_44 rfl (zlt rfl) m_34 g6 ?_
      refine Zp.icmp_geN k_35_47 (by omega) (by omega) (fun c_47 => ?_) (fun c_47 => absurd c_47 (by omega))
      refine Zp.vret k_35_73 vr_35 ?_
      exact hq I1 g0 g1 g2 g35 ⟨(g3 5 (by decide)).trans h5, g6, fun j hj => by rw [fr 36 (by decide) (by decide)]; exact h36 j hj, fun j hj => by rw [fr 37 (by decide) (by decide)]; exact h37 j hj, fun j hj => (hs j hj).fr (fr _ (by omega) (by omega)) (fr _ (by omega) (by omega)) (fr _ (by omega) (by omega))⟩ fr
    | succ k ih =>
      intro i I1 hi g0 g1 g2 g3 g35 fr
      have g6 : I1 34 6 = nI n := (g3 6 (by decide)).trans h6
      have dl := dg_lt (P := np (sn S)) (n := n) (r := r) (i := i) (hP0 (by omega))
      have g37 : I1 37 i = nI (dg (np (sn S)) n r i) := by rw [fr 37 (by decide) (by decide)]; exact h37 i (by omega)
      have g36 : I1 36 (dg (np (sn S)) n r i) = nI (rwP (sn S) n r i) := by rw [fr 36 (by decide) (by decide)]; exact h36 _ dl
      refine Zp.iload_n k_35_42 rfl ?_
      refine Zp.aload_n k_35_43 rfl ?_
      refine Zp.getV k_35_44 rfl (zlt rfl) m_34 g6 ?_
      refine Zp.icmp_geN k_35_47 (by omega) (by omega) (fun c_47 => absurd c_47 (by omega)) (fun c_47 => ?_)
      refine Zp.aload_n k_35_50 rfl ?_
      refine Zp.getR k_35_51 rfl (zlt rfl) m_34 r_34_3 ?_
      refine Zp.iload_n k_35_54 rfl ?_
      refine Zp.aload_n k_35_55 rfl ?_
      refine Zp.getR k_35_56 rfl (zlt rfl) m_34 r_34_4 ?_
      refine Zp.aload_n k_35_59 rfl ?_
      refine Zp.getR k_35_60 rfl (zlt rfl) m_34 r_34_7 ?_
      refine Zp.iload_n k_35_63 rfl ?_
      refine Zp.iald _ k_35_64 m_37 rfl (by omega) (zlt rfl) g37 ?_
      refine Zp.iald _ k_35_65 m_36 rfl (by omega) (zlt rfl) g36 ?_
      refine Zp.iast _ k_35_66 m_35 rfl (by omega) (zlt rfl) ?_
      refine Zp.iinc (nI (_ + 1)) [some (.ref _), some (.int _)] k_35_67 rfl (nI_1 _) (Nat.lt_of_lt_of_eq (zlt rfl : 1 < 2) vl_35.symm) rfl ?_
      refine Zp.goto k_35_70 ?_
      refine ih (i + 1) _ (by omega) (by rw [zpu_q _ _ _ (by decide)]; exact g0) (by rw [zpu_q _ _ _ (by decide)]; exact g1) (by rw [zpu_q _ _ _ (by decide)]; exact g2) (fun j hj => by rw [zpu_q _ _ _ (by decide)]; exact g3 j hj) (fun j hj => ?_) (fun q a b => by rw [zpu_q _ _ _ b]; exact fr q a b)
      by_cases e : j = i
      · subst e; rw [zpu_s]
      · rw [zpu_k _ _ _ e]; exact g35 j (by omega)
  refine Zm.go [some (.ref _), none] vl_35 rfl ?_
  refine Zp.aload_n k_35_0 rfl ?_
  refine Zp.aload_n k_35_1 rfl ?_
  refine Zp.getR k_35_2 rfl (zlt rfl) m_34 r_34_8 ?_
  refine Zp.aload_n k_35_5 rfl ?_
  refine Zp.getV k_35_6 rfl (zlt rfl) m_34 (by first | exact h6 | exact zku_r (by decide) (h6) | exact zku_r (by decide) (zku_r (by decide) (h6))) ?_
  refine Zp.aald n k_35_9 m_38 (by decide) rfl (by omega) (zlt rfl) (rr_at n (by omega)) ?_
  refine Zp.getV k_35_10 rfl (zlt rfl) hsn.1 sp.2.2.2.2.1 ?_
  refine Zp.putI k_35_13 rfl (zlt rfl) m_34 ?_
  refine Zp.aload_n k_35_16 rfl ?_
  refine Zp.aload_n k_35_17 rfl ?_
  refine Zp.getR k_35_18 rfl (zlt rfl) m_34 r_34_8 ?_
  refine Zp.aload_n k_35_21 rfl ?_
  refine Zp.getV k_35_22 rfl (zlt rfl) m_34 (by first | exact h6 | exact zku_r (by decide) (h6) | exact zku_r (by decide) (zku_r (by decide) (h6))) ?_
  refine Zp.aald n k_35_25 m_38 (by decide) rfl (by omega) (zlt rfl) (rr_at n (by omega)) ?_
  refine Zp.callv0I v_67 k_35_26 hsn.1 (Nat.le_of_ble_eq_true rfl) (Nat.le_of_ble_eq_true rfl) (c_allHatred hsn (sp.fr (zpu_q _ _ _ (by omega)) (zpu_q _ _ _ (by omega)) (zpu_q _ _ _ (by omega))) ho1 ⟨_, rfl, ?_⟩)
  refine Zp.putI k_35_29 rfl (zlt rfl) m_34 ?_
  refine Zp.aload_n k_35_32 rfl ?_
  refine Zp.aload_n k_35_33 rfl ?_
  refine Zp.getV k_35_34 rfl (zlt rfl) m_34 (by first | exact h6 | exact zku_r (by decide) (h6) | exact zku_r (by decide) (zku_r (by decide) (h6))) ?_
  refine Zp.putI k_35_37 rfl (zlt rfl) m_34 ?_
  refine Zp.iconst (nI 0) k_35_40 (by decide) ?_
  refine Zp.istore_n [some (.ref _), some (.int _)] k_35_41 (Nat.lt_of_lt_of_eq (zlt rfl : 1 < 2) vl_35.symm) rfl ?_
  refine loop n 0 _ (by omega) ?_ ?_ (zpu_s _ _ _ _) (fun j hj => ?_) (fun j hj => absurd hj (Nat.not_lt_zero j)) (fun q a b => ?_)
  · rw [zpu_k _ _ _ (by decide), zpu_k _ _ _ (by decide), zpu_s]; rfl
  · rw [zpu_k _ _ _ (by decide), zpu_s]; rfl
  · rw [zpu_k _ _ _ (by omega), zpu_k _ _ _ (by omega), zpu_k _ _ _ (by omega)]
  · rw [zpu_q _ _ _ a, zpu_q _ _ _ a, zpu_q _ _ _ a]
/-- the next row, if there is one -/
theorem c_advance (rw_ : Rw I S n r) (ho : So S) (hst : sstep S < 2 ^ 20) (hn : n ≤ 4) (hP : np (sn S) ≤ 10) (hP0 : 0 < n → 0 < np (sn S))
    (hq : ∀ I', (r + 1 < np (sn S) ^ n → Rw I' S n (r + 1)) → FrR I I' → Q none I' L) : Zm G 33 [.ref 34] I L Q := by
  obtain ⟨h5, h6, h36, h37, hs⟩ := id rw_
  have o1 := ho.1
  have loop : ∀ (k : Nat) (u : Int32) (I1 : zI), u.toInt = (k : Int) - 1 → k ≤ n → (r + 1) % np (sn S) ^ (n - k) = 0 → (∀ j, j < k → I1 37 j = nI (dg (np (sn S)) n r j)) → (∀ j, k ≤ j → j < n → I1 37 j = nI 0) → (∀ q, q ≠ 37 → I1 q = I q) → Zp G 33 7 [some (.ref 34), some (.int u)] [] I1 L Q := by
    intro k
    induction k with
    | zero =>
      intro u I1 hu hk hm g1 g2 fr
      have hend : ¬ r + 1 < np (sn S) ^ n := fun z => by
        rw [Nat.sub_zero, Nat.mod_eq_of_lt z] at hm
        omega
      refine Zp.iload_n k_33_7 rfl ?_
      refine Zp.if_ltZ _ k_33_8 rfl (fun c_8 => ?_) (fun c_8 => absurd c_8 (by omega))
      refine Zp.iload_n k_33_39 rfl ?_
      refine Zp.if_ltZ _ k_33_40 rfl (fun c_40 => ?_) (fun c_40 => absurd c_40 (by omega))
      refine Zp.vret k_33_58 vr_33 ?_
      exact hq I1 (fun z => absurd z hend) (fun q a b => fr q a)
    | succ k ih =>
      intro u I1 hu hk hm g1 g2 fr
      have hPp := hP0 (by omega)
      have eu : u = nI k := by rw [z_nI (x := u) (by omega), hu]; congr 1; omega
      subst eu
      have c5 : I1 34 5 = nI (np (sn S)) := by rw [fr 34 (by decide)]; exact h5
      have c6 : I1 34 6 = nI n := by rw [fr 34 (by decide)]; exact h6
      have ck := g1 k (by omega)
      have dk := dg_lt (P := np (sn S)) (n := n) (r := r) (i := k) hPp
      have ek : n - 1 - k = n - (k + 1) := by omega
      have dd : dg (np (sn S)) n r k = r / np (sn S) ^ (n - (k + 1)) % np (sn S) := by unfold dg; rw [ek]
      by_cases w : np (sn S) ≤ dg (np (sn S)) n r k + 1
      · have hm2 : (r + 1) % np (sn S) ^ (n - k) = 0 := by
          rw [show n - k = n - (k + 1) + 1 by omega]
          exact dg_full hPp hm (by omega)
        refine Zp.iload_n k_33_7 rfl ?_
        refine Zp.if_ltN k_33_8 (by omega) ?_
        refine Zp.aload_n k_33_11 rfl ?_
        refine Zp.getR k_33_12 rfl (zlt rfl) m_34 r_34_7 ?_
        refine Zp.iload_n k_33_15 rfl ?_
        refine Zp.iald _ k_33_16 m_37 rfl (by omega) (zlt rfl) ck ?_
        refine Zp.iconst (nI 1) k_33_17 (by decide) ?_
        refine Zp.iaddN k_33_18 ?_
        refine Zp.aload_n k_33_19 rfl ?_
        refine Zp.getV k_33_20 rfl (zlt rfl) m_34 c5 ?_
        refine Zp.icmp_ltN k_33_23 (by omega) (by omega) (fun c_23 => absurd c_23 (by omega)) (fun c_23 => ?_)
        refine Zp.aload_n k_33_26 rfl ?_
        refine Zp.getR k_33_27 rfl (zlt rfl) m_34 r_34_7 ?_
        refine Zp.iload_n k_33_30 rfl ?_
        refine Zp.iconst (nI 0) k_33_31 (by decide) ?_
        refine Zp.iast _ k_33_32 m_37 rfl (by omega) (zlt rfl) ?_
        refine Zp.iinc _ [some (.ref _), some (.int _)] k_33_33 rfl rfl (Nat.lt_of_lt_of_eq (zlt rfl : 1 < 2) vl_33.symm) rfl ?_
        refine Zp.goto k_33_36 ?_
        refine ih _ _ (idec (by omega)) (by omega) hm2 (fun j hj => by rw [zpu_k _ _ _ (by omega)]; exact g1 j (by omega)) (fun j hj hj2 => ?_) (fun q a => by rw [zpu_q _ _ _ a]; exact fr q a)
        by_cases e : j = k
        · subst e; rw [zpu_s]
        · rw [zpu_k _ _ _ e]; exact g2 j (by omega) hj2
      · obtain ⟨w1, w2⟩ := dg_more hPp hm (by omega)
        have sm1 := dg_same hPp w2
        have zr := dg_zero hPp hm
        have dj1 : ∀ j, j < k → dg (np (sn S)) n (r + 1) j = dg (np (sn S)) n r j := fun j hj => by unfold dg; rw [sm1 _ (by omega)]
        have djk : dg (np (sn S)) n (r + 1) k = dg (np (sn S)) n r k + 1 := by rw [dd]; unfold dg; rw [ek]; exact w1
        have dj2 : ∀ j, k < j → j < n → dg (np (sn S)) n (r + 1) j = 0 := fun j hj hj2 => by unfold dg; exact zr _ (by omega)
        have chs : ∀ j, j < n → zpu I1 37 k (nI (dg (np (sn S)) n r k + 1)) 37 j = nI (dg (np (sn S)) n (r + 1) j) := fun j hj => by
          by_cases e : j = k
          · subst e; rw [zpu_s, djk]
          · rw [zpu_k _ _ _ e]
            by_cases e2 : j < k
            · rw [dj1 j e2]; exact g1 j (by omega)
            · rw [dj2 j (by omega) hj]; exact g2 j (by omega) hj
        have sps : ∀ i, i ≤ k → Sp (zpu I1 37 k (nI (dg (np (sn S)) n r k + 1))) (39 + 3 * i) (plG S (rwP (sn S) n (r + 1)) i) := fun i hi => by
          rw [plG_cong (q := rwP (sn S) n r) i (fun j hj => by unfold rwP; rw [dj1 j (by omega)])]
          exact (hs i (by omega)).fr (by rw [zpu_q _ _ _ (by omega), fr _ (by omega)]) (by rw [zpu_q _ _ _ (by omega), fr _ (by omega)]) (by rw [zpu_q _ _ _ (by omega), fr _ (by omega)])
        refine Zp.iload_n k_33_7 rfl ?_
        refine Zp.if_ltN k_33_8 (by omega) ?_
        refine Zp.aload_n k_33_11 rfl ?_
        refine Zp.getR k_33_12 rfl (zlt rfl) m_34 r_34_7 ?_
        refine Zp.iload_n k_33_15 rfl ?_
        refine Zp.iald _ k_33_16 m_37 rfl (by omega) (zlt rfl) ck ?_
        refine Zp.iconst (nI 1) k_33_17 (by decide) ?_
        refine Zp.iaddN k_33_18 ?_
        refine Zp.aload_n k_33_19 rfl ?_
        refine Zp.getV k_33_20 rfl (zlt rfl) m_34 c5 ?_
        refine Zp.icmp_ltN k_33_23 (by omega) (by omega) (fun c_23 => ?_) (fun c_23 => absurd c_23 (by omega))
        refine Zp.iload_n k_33_39 rfl ?_
        refine Zp.if_ltN k_33_40 (by omega) ?_
        refine Zp.aload_n k_33_43 rfl ?_
        refine Zp.getR k_33_44 rfl (zlt rfl) m_34 r_34_7 ?_
        refine Zp.iload_n k_33_47 rfl ?_
        refine Zp.dup2 k_33_48 rfl rfl ?_
        refine Zp.iald _ k_33_49 m_37 rfl (by omega) (zlt rfl) ck ?_
        refine Zp.iconst (nI 1) k_33_50 (by decide) ?_
        refine Zp.iaddN k_33_51 ?_
        refine Zp.iast _ k_33_52 m_37 rfl (by omega) (zlt rfl) ?_
        refine Zp.aload_n k_33_53 rfl ?_
        refine Zp.iload_n k_33_54 rfl ?_
        refine Zp.callv1V v_34 k_33_55 m_34 (Nat.le_of_ble_eq_true rfl) (Nat.le_of_ble_eq_true rfl) (c_stirFrom (d := dg (np (sn S)) n (r + 1)) ho hst (by rw [zpu_q _ _ _ (by decide)]; exact c6) (fun j hj => by rw [zpu_q _ _ _ (by decide), fr 36 (by decide)]; exact h36 j hj) chs (fun i hi => dg_lt hPp) hn (by omega) sps (fun I2 s2 f2 => ⟨rfl, ?_⟩))
        refine Zp.vret k_33_58 vr_33 ?_
        refine hq I2 (fun z => ⟨?_, ?_, fun j hj => ?_, fun i hi => ?_, s2⟩) (fun q a b => ?_)
        · rw [f2 34 (by decide), zpu_q _ _ _ (by decide)]; exact c5
        · rw [f2 34 (by decide), zpu_q _ _ _ (by decide)]; exact c6
        · rw [f2 36 (by decide), zpu_q _ _ _ (by decide), fr 36 (by decide)]; exact h36 j hj
        · rw [f2 37 (by decide)]; exact chs i hi
        · rw [f2 q b, zpu_q _ _ _ a]; exact fr q a
  refine Zm.go [some (.ref _), none] vl_33 rfl ?_
  refine Zp.aload_n k_33_0 rfl ?_
  refine Zp.getV k_33_1 rfl (zlt rfl) m_34 h6 ?_
  refine Zp.iconst (nI 1) k_33_4 (by decide) ?_
  refine Zp.isub k_33_5 ?_
  refine Zp.istore_n [some (.ref _), some (.int _)] k_33_6 (Nat.lt_of_lt_of_eq (zlt rfl : 1 < 2) vl_33.symm) rfl ?_
  exact loop n _ I (by have := zsubt (h := n) (l := 1) (by omega) (by omega); omega) (Nat.le_refl n) (by rw [Nat.sub_self, Nat.pow_zero, Nat.mod_one]) (fun j hj => h37 j hj) (fun j hj hj2 => absurd hj2 (by omega)) (fun _ _ => rfl)
end ROWS1
