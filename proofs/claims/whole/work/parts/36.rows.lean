/-! ROWS OF PAIRS: numbers, the class's ways -/
/-- how many pairs; the pairs by numbers; the place of a pair -/
def np (m : Nat) : Nat := m * (m - 1) / 2
def ptL : Nat → List Nat
  | 2 => [1]
  | 3 => [1, 2, 12]
  | 4 => [1, 2, 3, 12, 13, 23]
  | 5 => [1, 2, 3, 4, 12, 13, 14, 23, 24, 34]
  | _ => []
def pt (m i : Nat) : Nat := (ptL m).getD i 0
def cn (m a b : Nat) : Nat := a * (2 * m - a - 1) / 2 + b - a - 1
theorem cn_at : ∀ m, m < 6 → ∀ a, a < m → ∀ b, b < m → a < b → cn m a b < np m ∧ cn m a (b + 1) = cn m a b + 1 ∧ pt m (cn m a b) = 10 * a + b := by decide +kernel
theorem cn_row : ∀ m, m < 6 → ∀ a, a < m → cn m a m = cn m (a + 1) (a + 2) := by decide +kernel
theorem cn_0 : ∀ m, m < 6 → cn m 0 1 = 0 ∧ cn m m (m + 1) = np m ∧ np m ≤ 10 := by decide +kernel
theorem pt_ok : ∀ m, m < 6 → ∀ i, i < np m → pt m i / 10 < m ∧ pt m i % 10 < m ∧ pt m i < 45 := by decide +kernel
/-- the digit of a row at a place -/
def dg (P n r i : Nat) : Nat := r / P ^ (n - 1 - i) % P
theorem pw_le {P n : Nat} (hP : P ≤ 10) (hn : n ≤ 4) : P ^ n ≤ 10000 :=
  Nat.le_trans (Nat.pow_le_pow_left hP n) (Nat.pow_le_pow_right (n := 10) (by decide) hn)
theorem dg_lt {P n r i : Nat} (hP : 0 < P) : dg P n r i < P := Nat.mod_lt _ hP
theorem dv_up {r b : Nat} (hb : 0 < b) (h : (r + 1) % b = 0) : (r + 1) / b = r / b + 1 := by
  have h1 := Nat.div_add_mod (r + 1) b
  have h2 := Nat.div_add_mod r b
  have h3 := Nat.mod_lt r hb
  rw [h] at h1
  have h4 : b * (r / b) < b * ((r + 1) / b) := by omega
  have h5 : b * ((r + 1) / b) ≤ b * (r / b + 1) := by rw [Nat.mul_succ]; omega
  have h6 := Nat.lt_of_mul_lt_mul_left h4
  have h7 := Nat.le_of_mul_le_mul_left h5 hb
  omega
theorem dv_eq {r b : Nat} (hb : 0 < b) (h : ¬ (r + 1) % b = 0) : (r + 1) / b = r / b := by
  have h1 := Nat.div_add_mod (r + 1) b
  have h2 := Nat.div_add_mod r b
  have h3 := Nat.mod_lt r hb
  have h3' := Nat.mod_lt (r + 1) hb
  have h4 : b * (r / b) < b * ((r + 1) / b + 1) := by rw [Nat.mul_succ]; omega
  have h5 : b * ((r + 1) / b) < b * (r / b + 1) := by rw [Nat.mul_succ]; omega
  have h6 := Nat.lt_of_mul_lt_mul_left h4
  have h7 := Nat.lt_of_mul_lt_mul_left h5
  omega
/-- a digit that is full hands on -/
theorem dg_full {P k r : Nat} (hP : 0 < P) (h : (r + 1) % P ^ k = 0) (hd : P ≤ r / P ^ k % P + 1) : (r + 1) % P ^ (k + 1) = 0 := by
  have hb : 0 < P ^ k := Nat.pow_pos hP
  have h1 := dv_up hb h
  have h2 := Nat.mod_lt (r / P ^ k) hP
  have h3 : (r / P ^ k + 1) % P = 0 := by
    have h4 : r / P ^ k % P = P - 1 := by omega
    rw [Nat.add_mod, h4]
    rcases (by omega : P = 1 ∨ 2 ≤ P) with e | e
    · subst e; rfl
    · rw [Nat.mod_eq_of_lt (show 1 < P by omega), show P - 1 + 1 = P by omega, Nat.mod_self]
  rw [Nat.pow_succ, Nat.mod_mul, h, h1, h3]
  simp
theorem dg_more {P k r : Nat} (hP : 0 < P) (h : (r + 1) % P ^ k = 0) (hd : r / P ^ k % P + 1 < P) : (r + 1) / P ^ k % P = r / P ^ k % P + 1 ∧ ¬ (r + 1) % P ^ (k + 1) = 0 := by
  have hb : 0 < P ^ k := Nat.pow_pos hP
  have h1 := dv_up hb h
  have h3 : (r / P ^ k + 1) % P = r / P ^ k % P + 1 := by
    rw [Nat.add_mod, Nat.mod_eq_of_lt (show 1 < P by omega), Nat.mod_eq_of_lt hd]
  refine ⟨by rw [h1, h3], ?_⟩
  rw [Nat.pow_succ, Nat.mod_mul, h, h1, h3, Nat.zero_add]
  intro z
  rcases Nat.mul_eq_zero.mp z with e | e
  · omega
  · omega
/-- digits ahead of the one that grew stay -/
theorem dg_same {P k r : Nat} (hP : 0 < P) (h : ¬ (r + 1) % P ^ (k + 1) = 0) : ∀ e, k < e → (r + 1) / P ^ e = r / P ^ e := by
  intro e he
  obtain ⟨d, rfl⟩ : ∃ d, e = k + 1 + d := ⟨e - k - 1, by omega⟩
  have hb : 0 < P ^ (k + 1) := Nat.pow_pos hP
  rw [Nat.pow_add, ← Nat.div_div_eq_div_mul, ← Nat.div_div_eq_div_mul, dv_eq hb h]
/-- digits behind it are 0 -/
theorem dg_zero {P k r : Nat} (hP : 0 < P) (h : (r + 1) % P ^ k = 0) : ∀ e, e < k → (r + 1) / P ^ e % P = 0 := by
  intro e he
  obtain ⟨d, rfl⟩ : ∃ d, k = e + 1 + d := ⟨k - e - 1, by omega⟩
  have h1 : (r + 1) % P ^ (e + 1) = 0 := by
    have : P ^ (e + 1) ∣ r + 1 := Nat.dvd_trans ⟨P ^ d, by rw [Nat.pow_add]⟩ (Nat.dvd_of_mod_eq_zero h)
    exact Nat.mod_eq_zero_of_dvd this
  rw [Nat.pow_succ, Nat.mod_mul] at h1
  have hb : 0 < P ^ e := Nat.pow_pos hP
  rcases Nat.eq_zero_or_pos ((r + 1) / P ^ e % P) with z | z
  · exact z
  · have h2 := Nat.mul_pos hb z
    exact absurd h1 (Nat.ne_of_gt (Nat.lt_of_lt_of_le h2 (Nat.le_add_left _ _)))
theorem plG_cong {S : zSo} {p q : Nat → Nat} : ∀ n, (∀ i, i < n → p i = q i) → plG S p n = plG S q n
  | 0, _ => rfl
  | n + 1, h => by
    have ih := plG_cong (S := S) n (fun i hi => h i (by omega))
    unfold plG
    rw [ih, h n (by omega)]
theorem rr_at : ∀ i, i < 5 → (38, i, 39 + 3 * i) ∈ R0 := by decide +kernel
theorem rs_at (i : Nat) (h : i < 5) : Sa (39 + 3 * i) := by
  rcases (by omega : i = 0 ∨ i = 1 ∨ i = 2 ∨ i = 3 ∨ i = 4) with rfl | rfl | rfl | rfl | rfl
  · exact sa_39
  · exact sa_42
  · exact sa_45
  · exact sa_48
  · exact sa_51
/-- the row of pairs that a number tells -/
def rwP (m n r : Nat) : Nat → Nat := fun i => pt m (dg (np m) n r i)
/-- the class's rows: of n pairs, at the row r -/
def Rw (I : zI) (S : zSo) (n r : Nat) : Prop := I 34 5 = nI (np (sn S)) ∧ I 34 6 = nI n ∧ (∀ j, j < np (sn S) → I 36 j = nI (pt (sn S) j)) ∧ (∀ i, i < n → I 37 i = nI (dg (np (sn S)) n r i)) ∧ ∀ i, i ≤ n → Sp I (39 + 3 * i) (plG S (rwP (sn S) n r) i)
section ROWS0
variable {G : zG} {I : zI} {L : zJ} {Q : zP} {S : zSo}
theorem c_listPairs {m : Nat} (hm : m ≤ 5) (hq : ∀ I', I' 34 5 = nI (np m) → (∀ i, i < np m → I' 36 i = nI (pt m i)) → (∀ q, q ≠ 34 → q ≠ 36 → I' q = I q) → (∀ j, j ≠ 5 → I' 34 j = I 34 j) → Q none I' L) : Zm G 31 [.ref 34, .int (nI m)] I L Q := by
  obtain ⟨z1, z2, z3⟩ := cn_0 m (by omega)
  have z1b : cn m 0 (0 + 1) = 0 := z1
  have outer : ∀ k a (I1 : zI), a + k = m → I1 34 5 = nI (cn m a (a + 1)) → (∀ i, i < cn m a (a + 1) → I1 36 i = nI (pt m i)) → (∀ q, q ≠ 34 → q ≠ 36 → I1 q = I q) → (∀ j, j ≠ 5 → I1 34 j = I 34 j) → Zp G 31 7 [some (.ref 34), some (.int (nI m)), some (.int (nI a)), none] [] I1 L Q := by
    intro k
    induction k with
    | zero =>
      intro a I1 ha h1 h2 h3 h4
      have e : a = m := by omega
      subst e
      rw [z2] at h1 h2
      refine Zp.iload_n k_31_7 rfl ?_
      refine Zp.iload_n k_31_8 rfl ?_
      refine Zp.icmp_geN k_31_9 (by omega) (by omega) (fun c_9 => ?_) (fun c_9 => absurd c_9 (by omega))
      refine Zp.vret k_31_58 vr_31 ?_
      exact hq I1 h1 h2 h3 h4
    | succ k ih =>
      intro a I1 ha h1 h2 h3 h4
      have inner : ∀ l b (I2 : zI), b + l = m → a < b → I2 34 5 = nI (cn m a b) → (∀ i, i < cn m a b → I2 36 i = nI (pt m i)) → (∀ q, q ≠ 34 → q ≠ 36 → I2 q = I q) → (∀ j, j ≠ 5 → I2 34 j = I 34 j) → Zp G 31 16 [some (.ref 34), some (.int (nI m)), some (.int (nI a)), some (.int (nI b))] [] I2 L Q := by
        intro l
        induction l with
        | zero =>
          intro b I2 hb hab g1 g2 g3 g4
          have e : b = m := by omega
          subst e
          rw [cn_row _ (by omega) a (by omega)] at g1 g2
          refine Zp.iload_n k_31_16 rfl ?_
          refine Zp.iload_n k_31_17 rfl ?_
          refine Zp.icmp_geN k_31_18 (by omega) (by omega) (fun c_18 => ?_) (fun c_18 => absurd c_18 (by omega))
          refine Zp.iinc (nI (_ + 1)) [some (.ref _), some (.int _), some (.int _), some (.int _)] k_31_52 rfl (nI_1 _) (Nat.lt_of_lt_of_eq (zlt rfl : 2 < 4) vl_31.symm) rfl ?_
          refine Zp.goto k_31_55 ?_
          exact Zp.locs _ (zle_sub (by simp [zle])) (ih (a + 1) I2 (by omega) g1 g2 g3 g4)
        | succ l ih2 =>
          intro b I2 hb hab g1 g2 g3 g4
          obtain ⟨y1, y2, y3⟩ := cn_at m (by omega) a (by omega) b (by omega) hab
          refine Zp.iload_n k_31_16 rfl ?_
          refine Zp.iload_n k_31_17 rfl ?_
          refine Zp.icmp_geN k_31_18 (by omega) (by omega) (fun c_18 => absurd c_18 (by omega)) (fun c_18 => ?_)
          refine Zp.aload_n k_31_21 rfl ?_
          refine Zp.getR k_31_22 rfl (zlt rfl) m_34 r_34_4 ?_
          refine Zp.aload_n k_31_25 rfl ?_
          refine Zp.getV k_31_26 rfl (zlt rfl) m_34 (by first | exact g1 | exact zpu_r (by omega) (g1)) ?_
          refine Zp.bipush (nI 10) k_31_29 (by decide) ?_
          refine Zp.iload_n k_31_31 rfl ?_
          refine Zp.imulN k_31_32 ?_
          refine Zp.iload_n k_31_33 rfl ?_
          refine Zp.iaddN k_31_34 ?_
          refine Zp.iast _ k_31_35 m_36 rfl (by omega) (zlt rfl) ?_
          refine Zp.aload_n k_31_36 rfl ?_
          refine Zp.dup k_31_37 rfl ?_
          refine Zp.getV k_31_38 rfl (zlt rfl) m_34 (by first | exact g1 | exact zpu_r (by omega) (g1)) ?_
          refine Zp.iconst (nI 1) k_31_41 (by decide) ?_
          refine Zp.iaddN k_31_42 ?_
          refine Zp.putI k_31_43 rfl (zlt rfl) m_34 ?_
          refine Zp.iinc (nI (_ + 1)) [some (.ref _), some (.int _), some (.int _), some (.int _)] k_31_46 rfl (nI_1 _) (Nat.lt_of_lt_of_eq (zlt rfl : 3 < 4) vl_31.symm) rfl ?_
          refine Zp.goto k_31_49 ?_
          refine ih2 (b + 1) _ (by omega) (by omega) (by rw [y2]; exact zpu_s _ _ _ _) (fun i hi => ?_) (fun q a1 a2 => by rw [zpu_q _ _ _ a1, zpu_q _ _ _ a2]; exact g3 q a1 a2) (fun j hj => by rw [zpu_k _ _ _ hj, zpu_q _ _ _ (by decide)]; exact g4 j hj)
          rw [zpu_q _ _ _ (by decide)]
          by_cases e : i = cn m a b
          · subst e; rw [zpu_s, y3]
          · rw [zpu_k _ _ _ e]; exact g2 i (by omega)
      refine Zp.iload_n k_31_7 rfl ?_
      refine Zp.iload_n k_31_8 rfl ?_
      refine Zp.icmp_geN k_31_9 (by omega) (by omega) (fun c_9 => absurd c_9 (by omega)) (fun c_9 => ?_)
      refine Zp.iload_n k_31_12 rfl ?_
      refine Zp.iconst (nI 1) k_31_13 (by decide) ?_
      refine Zp.iaddN k_31_14 ?_
      refine Zp.istore_n [some (.ref _), some (.int _), some (.int _), some (.int _)] k_31_15 (Nat.lt_of_lt_of_eq (zlt rfl : 3 < 4) vl_31.symm) rfl ?_
      exact inner k (a + 1) I1 (by omega) (by omega) h1 h2 h3 h4
  refine Zm.go [some (.ref _), some (.int _), none, none] vl_31 rfl ?_
  refine Zp.aload_n k_31_0 rfl ?_
  refine Zp.iconst (nI 0) k_31_1 (by decide) ?_
  refine Zp.putI k_31_2 rfl (zlt rfl) m_34 ?_
  refine Zp.iconst (nI 0) k_31_5 (by decide) ?_
  refine Zp.istore_n [some (.ref _), some (.int _), some (.int _), none] k_31_6 (Nat.lt_of_lt_of_eq (zlt rfl : 2 < 4) vl_31.symm) rfl ?_
  exact outer m 0 _ (by omega) (by rw [z1b]; exact zpu_s _ _ _ _) (fun i hi => absurd hi (by omega)) (fun q a1 _ => zpu_q _ _ _ a1) (fun j hj => zpu_k _ _ _ hj)
/-- stirs from the place f on -/
theorem c_stirFrom {n f : Nat} {d : Nat → Nat} (ho : So S) (hst : sstep S < 2 ^ 20) (h5 : I 34 6 = nI n) (hp : ∀ j, j < np (sn S) → I 36 j = nI (pt (sn S) j)) (hc : ∀ i, i < n → I 37 i = nI (d i)) (hd : ∀ i, i < n → d i < np (sn S)) (hn : n ≤ 4) (hf : f ≤ n)
    (hs : ∀ i, i ≤ f → Sp I (39 + 3 * i) (plG S (fun j => pt (sn S) (d j)) i)) (hq : ∀ I', (∀ i, i ≤ n → Sp I' (39 + 3 * i) (plG S (fun j => pt (sn S) (d j)) i)) → (∀ q, q < 39 ∨ 53 < q → I' q = I q) → Q none I' L) : Zm G 34 [.ref 34, .int (nI f)] I L Q := by
  have o1 := ho.1
  have hP := (cn_0 (sn S) (by omega)).2.2
  have loop : ∀ k i (I1 : zI), i + k = n → (∀ j, j ≤ i → Sp I1 (39 + 3 * j) (plG S (fun j => pt (sn S) (d j)) j)) → (∀ q, q < 39 ∨ 53 < q → I1 q = I q) → Zp G 34 2 [some (.ref 34), some (.int (nI f)), some (.int (nI i)), none, none] [] I1 L Q := by
    intro k
    induction k with
    | zero =>
      intro i I1 hi h1 h2
      have e : i = n := by omega
      subst e
      have g5 : I1 34 6 = nI i := by rw [h2 34 (by decide)]; exact h5
      refine Zp.iload_n k_34_2 rfl ?_
      refine Zp.aload_n k_34_3 rfl ?_
      refine Zp.getV k_34_4 rfl (zlt rfl) m_34 g5 ?_
      refine Zp.icmp_geN k_34_7 (by omega) (by omega) (fun c_7 => ?_) (fun c_7 => absurd c_7 (by omega))
      refine Zp.vret k_34_69 vr_34 ?_
      exact hq I1 h1 h2
    | succ k ih =>
      intro i I1 hi h1 h2
      have g5 : I1 34 6 = nI n := by rw [h2 34 (by decide)]; exact h5
      have di := hd i (by omega)
      obtain ⟨b1, b2, b3⟩ := pt_ok (sn S) (by omega) (d i) di
      have g7 : I1 37 i = nI (d i) := by rw [h2 37 (by decide)]; exact hc i (by omega)
      obtain ⟨q1, q2, q3, q4, q5⟩ := plG_n S (fun j => pt (sn S) (d j)) i
      have ho1 := plG_o ho (fun j => pt (sn S) (d j)) i
      have hs1 := rs_at (i + 1) (by omega)
      have hs0 := rs_at i (by omega)
      have nx : ∀ I2 : zI, Sp I2 (39 + 3 * (i + 1)) (plG S (fun j => pt (sn S) (d j)) (i + 1)) → (∀ q, q < 39 + 3 * (i + 1) ∨ 39 + 3 * (i + 1) + 2 < q → I2 q = I1 q) → Zp G 34 63 [some (.ref 34), some (.int (nI f)), some (.int (nI i)), some (.ref (39 + 3 * (i + 1))), some (.int (nI (pt (sn S) (d i))))] [] I2 L Q := by
        intro I2 s2 f2
        refine Zp.iinc (nI (_ + 1)) [some (.ref _), some (.int _), some (.int _), some (.ref _), some (.int _)] k_34_63 rfl (nI_1 _) (Nat.lt_of_lt_of_eq (zlt rfl : 2 < 5) vl_34.symm) rfl ?_
        refine Zp.goto k_34_66 ?_
        exact Zp.locs _ (zle_sub (by simp [zle])) (ih (i + 1) I2 (by omega) (fun j hj => by
          rcases (by omega : j ≤ i ∨ j = i + 1) with e | e
          · exact (h1 j e).fr (f2 _ (by omega)) (f2 _ (by omega)) (f2 _ (by omega))
          · subst e; exact s2) (fun q h => (f2 q (by omega)).trans (h2 q h)))
      refine Zp.iload_n k_34_2 rfl ?_
      refine Zp.aload_n k_34_3 rfl ?_
      refine Zp.getV k_34_4 rfl (zlt rfl) m_34 g5 ?_
      refine Zp.icmp_geN k_34_7 (by omega) (by omega) (fun c_7 => absurd c_7 (by omega)) (fun c_7 => ?_)
      refine Zp.aload_n k_34_10 rfl ?_
      refine Zp.getR k_34_11 rfl (zlt rfl) m_34 r_34_8 ?_
      refine Zp.iload_n k_34_14 rfl ?_
      refine Zp.iconst (nI 1) k_34_15 (by decide) ?_
      refine Zp.iaddN k_34_16 ?_
      refine Zp.aald (i + 1) k_34_17 m_38 (by decide) rfl (by omega) (zlt rfl) (rr_at (i + 1) (by omega)) ?_
      refine Zp.astore_n [some (.ref _), some (.int _), some (.int _), some (.ref _), none] (by omega) k_34_18 (Nat.lt_of_lt_of_eq (zlt rfl : 3 < 5) vl_34.symm) rfl ?_
      refine Zp.aload_n k_34_19 rfl ?_
      refine Zp.aload_n k_34_20 rfl ?_
      refine Zp.getR k_34_21 rfl (zlt rfl) m_34 r_34_8 ?_
      refine Zp.iload_n k_34_24 rfl ?_
      refine Zp.aald i k_34_25 m_38 (by decide) rfl (by omega) (zlt rfl) (rr_at i (by omega)) ?_
      refine Zp.callv1V v_55 k_34_26 hs1.1 (Nat.le_of_ble_eq_true rfl) (Nat.le_of_ble_eq_true rfl) (c_Soup_copyFrom hs1 hs0 (by omega) (h1 i (by omega)) ho1 (fun I2 s2 f2 => ⟨rfl, ?_⟩))
      refine Zp.aload_n k_34_29 rfl ?_
      refine Zp.getR k_34_30 rfl (zlt rfl) m_34 r_34_4 ?_
      refine Zp.aload_n k_34_33 rfl ?_
      refine Zp.getR k_34_34 rfl (zlt rfl) m_34 r_34_7 ?_
      refine Zp.iload_n k_34_37 rfl ?_
      refine Zp.iald _ k_34_38 m_37 rfl (by omega) (zlt rfl) ((congrFun (f2 37 (by omega) (by omega) (by omega)) _).trans g7) ?_
      refine Zp.iald _ k_34_39 m_36 rfl (by omega) (zlt rfl) ((congrFun ((f2 36 (by omega) (by omega) (by omega)).trans (h2 36 (by decide))) _).trans (hp _ di)) ?_
      refine Zp.istore [some (.ref _), some (.int _), some (.int _), some (.ref _), some (.int _)] k_34_40 (Nat.lt_of_lt_of_eq (zlt rfl : 4 < 5) vl_34.symm) rfl ?_
      refine Zp.aload_n k_34_42 rfl ?_
      refine Zp.callv0I v_62 k_34_43 hs1.1 (Nat.le_of_ble_eq_true rfl) (Nat.le_of_ble_eq_true rfl) (c_canBeStirred hs1 s2 ho1 (by omega) ⟨_, rfl, ?_⟩)
      refine Zp.if_eqB k_34_46 (fun c_46 => ?_) (fun c_46 => ?_)
      · first | exact nx I2 (by unfold plG; rw [if_neg c_46]; exact s2) (fun q h => f2 q (by omega) (by omega) (by omega)) | exact nx I3 (by unfold plG; rw [if_pos c_46]; exact s3) (fun q h => (f3 q (by omega) (by omega)).trans (f2 q (by omega) (by omega) (by omega)))
      · refine Zp.aload_n k_34_49 rfl ?_
        refine Zp.iload k_34_50 rfl ?_
        refine Zp.bipush (nI 10) k_34_52 (by decide) ?_
        refine Zp.idivN k_34_54 (by omega) (by omega) (by omega) ?_
        refine Zp.iload k_34_55 rfl ?_
        refine Zp.bipush (nI 10) k_34_57 (by decide) ?_
        refine Zp.iremN k_34_59 (by omega) (by omega) (by omega) ?_
        refine Zp.callv2V v_63 k_34_60 hs1.1 (Nat.le_of_ble_eq_true rfl) (Nat.le_of_ble_eq_true rfl) (c_stirOnce hs1 s2 ho1 (by omega) (by omega) (by omega) (fun I3 s3 f3 => ⟨rfl, ?_⟩))
        first | exact nx I2 (by unfold plG; rw [if_neg c_46]; exact s2) (fun q h => f2 q (by omega) (by omega) (by omega)) | exact nx I3 (by unfold plG; rw [if_pos c_46]; exact s3) (fun q h => (f3 q (by omega) (by omega)).trans (f2 q (by omega) (by omega) (by omega)))
  refine Zm.go [some (.ref _), some (.int _), none, none, none] vl_34 rfl ?_
  refine Zp.iload_n k_34_0 rfl ?_
  refine Zp.istore_n [some (.ref _), some (.int _), some (.int _), none, none] k_34_1 (Nat.lt_of_lt_of_eq (zlt rfl : 2 < 5) vl_34.symm) rfl ?_
  exact loop (n - f) f I (by omega) hs (fun _ _ => rfl)
end ROWS0
