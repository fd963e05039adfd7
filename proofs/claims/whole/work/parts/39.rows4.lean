/-! ROWS OF PAIRS: the reference's ways -/
section ROWS3
variable {G : zG} {A : zQs} {I : zI} {L : zJ} {Q : zP} {S : zSo} {n m r : Nat}
theorem np_z : ∀ m, m < 6 → (nI m * (nI m - nI 1)) / nI 2 = nI (np m) := by decide +kernel
theorem c_pairsM (h3 : I 93 3 = nI m) (hm : m ≤ 5) (hq : Q (some (.int (nI (np m)))) I L) : Zm G 193 [.ref 93] I L Q := by
  refine Zm.go [some (.ref _)] vl_193 rfl ?_
  refine Zp.aload_n k_193_0 rfl ?_
  refine Zp.getV k_193_1 rfl (zlt rfl) m_93 h3 ?_
  refine Zp.aload_n k_193_4 rfl ?_
  refine Zp.getV k_193_5 rfl (zlt rfl) m_93 h3 ?_
  refine Zp.iconst (nI 1) k_193_8 (by decide) ?_
  refine Zp.isub k_193_9 ?_
  refine Zp.imul k_193_10 ?_
  refine Zp.iconst (nI 2) k_193_11 (by decide) ?_
  refine Zp.idiv k_193_12 (by decide) ?_
  refine Zp.iret _ k_193_13 vr_193 rfl ?_
  rw [np_z m (by omega)]
  exact hq
theorem c_rowsOfM (h3 : I 93 3 = nI m) (hm : m ≤ 5) (hn : n ≤ 100) (hq : Q (some (.int (nI (np m ^ n)))) I L) : Zm G 195 [.ref 93, .int (nI n)] I L Q := by
  have loop : ∀ k i, i + k = n → Zp G 195 4 [some (.ref 93), some (.int (nI n)), some (.int (nI (np m ^ i))), some (.int (nI i))] [] I L Q := by
    intro k
    induction k with
    | zero =>
      intro i hi
      have e : i = n := by omega
      subst e
      refine Zp.iload_n k_195_4 rfl ?_
      refine Zp.iload_n k_195_5 rfl ?_
      refine Zp.icmp_geN k_195_6 (by omega) (by omega) (fun c_6 => ?_) (fun c_6 => absurd c_6 (by omega))
      refine Zp.iload_n k_195_22 rfl ?_
      refine Zp.iret _ k_195_23 vr_195 rfl ?_
      exact hq
    | succ k ih =>
      intro i hi
      refine Zp.iload_n k_195_4 rfl ?_
      refine Zp.iload_n k_195_5 rfl ?_
      refine Zp.icmp_geN k_195_6 (by omega) (by omega) (fun c_6 => absurd c_6 (by omega)) (fun c_6 => ?_)
      refine Zp.iload_n k_195_9 rfl ?_
      refine Zp.aload_n k_195_10 rfl ?_
      refine Zp.callv0I v_193 k_195_11 m_93 (Nat.le_of_ble_eq_true rfl) (Nat.le_of_ble_eq_true rfl) (c_pairsM h3 hm ⟨_, rfl, ?_⟩)
      refine Zp.imulN k_195_14 ?_
      refine Zp.istore_n [some (.ref _), some (.int _), some (.int _), some (.int _)] k_195_15 (Nat.lt_of_lt_of_eq (zlt rfl : 2 < 4) vl_195.symm) rfl ?_
      refine Zp.iinc (nI (_ + 1)) [some (.ref _), some (.int _), some (.int _), some (.int _)] k_195_16 rfl (nI_1 _) (Nat.lt_of_lt_of_eq (zlt rfl : 3 < 4) vl_195.symm) rfl ?_
      refine Zp.goto k_195_19 ?_
      exact ih (i + 1) (by omega)
  refine Zm.go [some (.ref _), some (.int _), none, none] vl_195 rfl ?_
  refine Zp.iconst (nI 1) k_195_0 (by decide) ?_
  refine Zp.istore_n [some (.ref _), some (.int _), some (.int _), none] k_195_1 (Nat.lt_of_lt_of_eq (zlt rfl : 2 < 4) vl_195.symm) rfl ?_
  refine Zp.iconst (nI 0) k_195_2 (by decide) ?_
  refine Zp.istore_n [some (.ref _), some (.int _), some (.int _), some (.int _)] k_195_3 (Nat.lt_of_lt_of_eq (zlt rfl : 3 < 4) vl_195.symm) rfl ?_
  exact loop n 0 (by omega)
theorem c_pairAtM {p : Nat} (h3 : I 93 3 = nI m) (hm : m ≤ 5) (hp : p < np m) (hq : Q (some (.int (nI (pt m p)))) I L) : Zm G 194 [.ref 93, .int (nI p)] I L Q := by
  obtain ⟨z1, z2, z3⟩ := cn_0 m (by omega)
  have z1b : cn m 0 (0 + 1) = 0 := z1
  have outer : ∀ k a (l f : Int32), a + k = m → l.toInt = (p : Int) - cn m a (a + 1) → (p < cn m a (a + 1) → f = nI (pt m p)) → Zp G 194 8 [some (.ref 93), some (.int (nI p)), some (.int l), some (.int f), some (.int (nI a)), none] [] I L Q := by
    intro k
    induction k with
    | zero =>
      intro a l f ha hl hf
      have e : a = m := by omega
      subst e
      rw [z2] at hf
      have hf1 := hf hp
      subst hf1
      refine Zp.iload k_194_8 rfl ?_
      refine Zp.aload_n k_194_10 rfl ?_
      refine Zp.getV k_194_11 rfl (zlt rfl) m_93 h3 ?_
      refine Zp.icmp_geN k_194_14 (by omega) (by omega) (fun c_14 => ?_) (fun c_14 => absurd c_14 (by omega))
      refine Zp.iload_n k_194_64 rfl ?_
      refine Zp.iret _ k_194_65 vr_194 rfl ?_
      exact hq
    | succ k ih =>
      intro a l f ha hl hf
      have inner : ∀ j b (l f : Int32), b + j = m → a < b → l.toInt = (p : Int) - cn m a b → (p < cn m a b → f = nI (pt m p)) → Zp G 194 23 [some (.ref 93), some (.int (nI p)), some (.int l), some (.int f), some (.int (nI a)), some (.int (nI b))] [] I L Q := by
        intro j
        induction j with
        | zero =>
          intro b l f hb hab hl hf
          have e : b = m := by omega
          subst e
          rw [cn_row _ (by omega) a (by omega)] at hl hf
          refine Zp.iload k_194_23 rfl ?_
          refine Zp.aload_n k_194_25 rfl ?_
          refine Zp.getV k_194_26 rfl (zlt rfl) m_93 h3 ?_
          refine Zp.icmp_geN k_194_29 (by omega) (by omega) (fun c_29 => ?_) (fun c_29 => absurd c_29 (by omega))
          refine Zp.iinc (nI (_ + 1)) [some (.ref _), some (.int _), some (.int _), some (.int _), some (.int _), some (.int _)] k_194_58 rfl (nI_1 _) (Nat.lt_of_lt_of_eq (zlt rfl : 4 < 6) vl_194.symm) rfl ?_
          refine Zp.goto k_194_61 ?_
          exact Zp.locs _ (zle_sub (by simp [zle])) (ih (a + 1) l f (by omega) hl hf)
        | succ j ih2 =>
          intro b l f hb hab hl hf
          obtain ⟨y1, y2, y3⟩ := cn_at m (by omega) a (by omega) b (by omega) hab
          have w0 : l.toInt = 0 → p < cn m a (b + 1) → nI (10 * a + b) = nI (pt m p) := fun z _ => by rw [show p = cn m a b by omega, y3]
          have w1 : ¬ l.toInt = 0 → p < cn m a (b + 1) → f = nI (pt m p) := fun z z2 => hf (by omega)
          have hl2 : (l + Int32.ofInt (-1)).toInt = (p : Int) - cn m a (b + 1) := by
            rw [y2, Int32.toInt_add, show (Int32.ofInt (-1)).toInt = -1 by decide, Jvm.Kit.bmod32 (by omega) (by omega)]
            omega
          have tl : ∀ f2 : Int32, (p < cn m a (b + 1) → f2 = nI (pt m p)) → Zp G 194 23 [some (.ref 93), some (.int (nI p)), some (.int (l + Int32.ofInt (-1))), some (.int f2), some (.int (nI a)), some (.int (nI (b + 1)))] [] I L Q := fun f2 hf2 => ih2 (b + 1) _ f2 (by omega) (by omega) hl2 hf2
          refine Zp.iload k_194_23 rfl ?_
          refine Zp.aload_n k_194_25 rfl ?_
          refine Zp.getV k_194_26 rfl (zlt rfl) m_93 h3 ?_
          refine Zp.icmp_geN k_194_29 (by omega) (by omega) (fun c_29 => absurd c_29 (by omega)) (fun c_29 => ?_)
          refine Zp.iload_n k_194_32 rfl ?_
          refine Zp.if_neZ _ k_194_33 rfl (fun c_33 => ?_) (fun c_33 => ?_)
          · refine Zp.iload_n k_194_47 rfl ?_
            refine Zp.istore_n [some (.ref _), some (.int _), some (.int _), some (.int _), some (.int _), some (.int _)] k_194_48 (Nat.lt_of_lt_of_eq (zlt rfl : 3 < 6) vl_194.symm) rfl ?_
            refine Zp.iinc _ [some (.ref _), some (.int _), some (.int _), some (.int _), some (.int _), some (.int _)] k_194_49 rfl rfl (Nat.lt_of_lt_of_eq (zlt rfl : 2 < 6) vl_194.symm) rfl ?_
            refine Zp.iinc (nI (_ + 1)) [some (.ref _), some (.int _), some (.int _), some (.int _), some (.int _), some (.int _)] k_194_52 rfl (nI_1 _) (Nat.lt_of_lt_of_eq (zlt rfl : 5 < 6) vl_194.symm) rfl ?_
            refine Zp.goto k_194_55 ?_
            first | exact tl _ (w0 c_33) | exact tl _ (w1 c_33)
          · refine Zp.bipush (nI 10) k_194_36 (by decide) ?_
            refine Zp.iload k_194_38 rfl ?_
            refine Zp.imulN k_194_40 ?_
            refine Zp.iload k_194_41 rfl ?_
            refine Zp.iaddN k_194_43 ?_
            refine Zp.goto k_194_44 ?_
            refine Zp.istore_n [some (.ref _), some (.int _), some (.int _), some (.int _), some (.int _), some (.int _)] k_194_48 (Nat.lt_of_lt_of_eq (zlt rfl : 3 < 6) vl_194.symm) rfl ?_
            refine Zp.iinc _ [some (.ref _), some (.int _), some (.int _), some (.int _), some (.int _), some (.int _)] k_194_49 rfl rfl (Nat.lt_of_lt_of_eq (zlt rfl : 2 < 6) vl_194.symm) rfl ?_
            refine Zp.iinc (nI (_ + 1)) [some (.ref _), some (.int _), some (.int _), some (.int _), some (.int _), some (.int _)] k_194_52 rfl (nI_1 _) (Nat.lt_of_lt_of_eq (zlt rfl : 5 < 6) vl_194.symm) rfl ?_
            refine Zp.goto k_194_55 ?_
            first | exact tl _ (w0 c_33) | exact tl _ (w1 c_33)
      refine Zp.iload k_194_8 rfl ?_
      refine Zp.aload_n k_194_10 rfl ?_
      refine Zp.getV k_194_11 rfl (zlt rfl) m_93 h3 ?_
      refine Zp.icmp_geN k_194_14 (by omega) (by omega) (fun c_14 => absurd c_14 (by omega)) (fun c_14 => ?_)
      refine Zp.iload k_194_17 rfl ?_
      refine Zp.iconst (nI 1) k_194_19 (by decide) ?_
      refine Zp.iaddN k_194_20 ?_
      refine Zp.istore [some (.ref _), some (.int _), some (.int _), some (.int _), some (.int _), some (.int _)] k_194_21 (Nat.lt_of_lt_of_eq (zlt rfl : 5 < 6) vl_194.symm) rfl ?_
      exact inner k (a + 1) l f (by omega) (by omega) hl hf
  refine Zm.go [some (.ref _), some (.int _), none, none, none, none] vl_194 rfl ?_
  refine Zp.iload_n k_194_0 rfl ?_
  refine Zp.istore_n [some (.ref _), some (.int _), some (.int _), none, none, none] k_194_1 (Nat.lt_of_lt_of_eq (zlt rfl : 2 < 6) vl_194.symm) rfl ?_
  refine Zp.bipush (-4) k_194_2 (by decide) ?_
  refine Zp.istore_n [some (.ref _), some (.int _), some (.int _), some (.int _), none, none] k_194_4 (Nat.lt_of_lt_of_eq (zlt rfl : 3 < 6) vl_194.symm) rfl ?_
  refine Zp.iconst (nI 0) k_194_5 (by decide) ?_
  refine Zp.istore [some (.ref _), some (.int _), some (.int _), some (.int _), some (.int _), none] k_194_6 (Nat.lt_of_lt_of_eq (zlt rfl : 4 < 6) vl_194.symm) rfl ?_
  exact outer m 0 _ _ (by omega) (by have := nI_toInt (n := p) (by omega); omega) (fun z => absurd z (by omega))
theorem c_findPairsM (h3 : I 93 3 = nI m) (hm : m ≤ 5) (hq : ∀ I', (∀ j, j < np m → I' 105 j = nI (pt m j)) → (∀ q, q ≠ 105 → I' q = I q) → Q none I' L) : Zm G 198 [.ref 93] I L Q := by
  obtain ⟨z1, z2, z3⟩ := cn_0 m (by omega)
  have loop : ∀ k i (I1 : zI), i + k = 10 → (∀ j, j < i → j < np m → I1 105 j = nI (pt m j)) → (∀ q, q ≠ 105 → I1 q = I q) → Zp G 198 2 [some (.ref 93), some (.int (nI i))] [] I1 L Q := by
    intro k
    induction k with
    | zero =>
      intro i I1 hi h1 h2
      have e : i = 10 := by omega
      subst e
      refine Zp.iload_n k_198_2 rfl ?_
      refine Zp.bipush (nI 10) k_198_3 (by decide) ?_
      refine Zp.icmp_geN k_198_5 (by omega) (by omega) (fun c_5 => ?_) (fun c_5 => absurd c_5 (by omega))
      refine Zp.vret k_198_38 vr_198 ?_
      exact hq I1 (fun j hj => h1 j (by omega) hj) h2
    | succ k ih =>
      intro i I1 hi h1 h2
      have g3 : I1 93 3 = nI m := by rw [h2 93 (by decide)]; exact h3
      refine Zp.iload_n k_198_2 rfl ?_
      refine Zp.bipush (nI 10) k_198_3 (by decide) ?_
      refine Zp.icmp_geN k_198_5 (by omega) (by omega) (fun c_5 => absurd c_5 (by omega)) (fun c_5 => ?_)
      refine Zp.aload_n k_198_8 rfl ?_
      refine Zp.getR k_198_9 rfl (zlt rfl) m_93 r_93_26 ?_
      refine Zp.iload_n k_198_12 rfl ?_
      refine Zp.iload_n k_198_13 rfl ?_
      refine Zp.aload_n k_198_14 rfl ?_
      refine Zp.callv0I v_193 k_198_15 m_93 (Nat.le_of_ble_eq_true rfl) (Nat.le_of_ble_eq_true rfl) (c_pairsM g3 hm ⟨_, rfl, ?_⟩)
      refine Zp.icmp_geN k_198_18 (by omega) (by omega) (fun c_18 => ?_) (fun c_18 => ?_)
      · refine Zp.bipush (-4) k_198_29 (by decide) ?_
        refine Zp.iast _ k_198_31 m_105 rfl (by omega) (zlt rfl) ?_
        refine Zp.iinc (nI (_ + 1)) [some (.ref _), some (.int _)] k_198_32 rfl (nI_1 _) (Nat.lt_of_lt_of_eq (zlt rfl : 1 < 2) vl_198.symm) rfl ?_
        refine Zp.goto k_198_35 ?_
        refine ih (i + 1) _ (by omega) (fun j hj hj2 => ?_) (fun q hq => by rw [zpu_q _ _ _ hq]; exact h2 q hq)
        by_cases e : j = i
        · subst e; first | exact absurd hj2 (by omega) | rw [zpu_s]
        · rw [zpu_k _ _ _ e]; exact h1 j (by omega) hj2
      · refine Zp.aload_n k_198_21 rfl ?_
        refine Zp.iload_n k_198_22 rfl ?_
        refine Zp.callv1I v_194 k_198_23 m_93 (Nat.le_of_ble_eq_true rfl) (Nat.le_of_ble_eq_true rfl) (c_pairAtM g3 hm (by omega) ⟨_, rfl, ?_⟩)
        refine Zp.goto k_198_26 ?_
        refine Zp.iast _ k_198_31 m_105 rfl (by omega) (zlt rfl) ?_
        refine Zp.iinc (nI (_ + 1)) [some (.ref _), some (.int _)] k_198_32 rfl (nI_1 _) (Nat.lt_of_lt_of_eq (zlt rfl : 1 < 2) vl_198.symm) rfl ?_
        refine Zp.goto k_198_35 ?_
        refine ih (i + 1) _ (by omega) (fun j hj hj2 => ?_) (fun q hq => by rw [zpu_q _ _ _ hq]; exact h2 q hq)
        by_cases e : j = i
        · subst e; first | exact absurd hj2 (by omega) | rw [zpu_s]
        · rw [zpu_k _ _ _ e]; exact h1 j (by omega) hj2
  refine Zm.go [some (.ref _), none] vl_198 rfl ?_
  refine Zp.iconst (nI 0) k_198_0 (by decide) ?_
  refine Zp.istore_n [some (.ref _), some (.int _)] k_198_1 (Nat.lt_of_lt_of_eq (zlt rfl : 1 < 2) vl_198.symm) rfl ?_
  exact loop 10 0 I (by omega) (fun j hj => absurd hj (Nat.not_lt_zero j)) (fun _ _ => rfl)
theorem c_pairInM {i : Nat} (h3 : I 93 3 = nI m) (hm : m ≤ 5) (hn : n ≤ 4) (hi : i < n) (hP : 0 < np m) (hr : r < 2 ^ 30) (hq : Q (some (.int (nI (rwP m n r i)))) I L) : Zm G 196 [.ref 93, .int (nI r), .int (nI n), .int (nI i)] I L Q := by
  obtain ⟨z1, z2, z3⟩ := cn_0 m (by omega)
  have hpw := pw_le z3 (show n - 1 - i ≤ 4 by omega)
  have hpp : 0 < np m ^ (n - 1 - i) := Nat.pow_pos hP
  have hdl : r / np m ^ (n - 1 - i) % np m < np m := Nat.mod_lt _ hP
  have hdv : r / np m ^ (n - 1 - i) ≤ r := Nat.div_le_self _ _
  refine Zm.go [some (.ref _), some (.int _), some (.int _), some (.int _)] vl_196 rfl ?_
  refine Zp.aload_n k_196_0 rfl ?_
  refine Zp.iload_n k_196_1 rfl ?_
  refine Zp.aload_n k_196_2 rfl ?_
  refine Zp.iload_n k_196_3 rfl ?_
  refine Zp.iconst (nI 1) k_196_4 (by decide) ?_
  refine Zp.isubN k_196_5 (by omega) ?_
  refine Zp.iload_n k_196_6 rfl ?_
  refine Zp.isubN k_196_7 (by omega) ?_
  refine Zp.callv1I v_195 k_196_8 m_93 (Nat.le_of_ble_eq_true rfl) (Nat.le_of_ble_eq_true rfl) (c_rowsOfM h3 hm (by omega) ⟨_, rfl, ?_⟩)
  refine Zp.idivN k_196_11 (by omega) (by omega) (by omega) ?_
  refine Zp.aload_n k_196_12 rfl ?_
  refine Zp.callv0I v_193 k_196_13 m_93 (Nat.le_of_ble_eq_true rfl) (Nat.le_of_ble_eq_true rfl) (c_pairsM h3 hm ⟨_, rfl, ?_⟩)
  refine Zp.iremN k_196_16 (by omega) (by omega) (by omega) ?_
  refine Zp.callv1I v_194 k_196_17 m_93 (Nat.le_of_ble_eq_true rfl) (Nat.le_of_ble_eq_true rfl) (c_pairAtM h3 hm hdl ⟨_, rfl, ?_⟩)
  refine Zp.iret _ k_196_20 vr_196 rfl ?_
  exact hq
theorem c_stirsRowM (pm : PicM A I) (ho : Ao A) (h105 : ∀ j, j < np (sn (kS (aK A))) → I 105 j = nI (pt (sn (kS (aK A))) j)) (hn : n ≤ 4) (hP : 0 < n → 0 < np (sn (kS (aK A)))) (hr : r < 2 ^ 30)
    (hq : ∀ I', PicM A I' → Mp (I' 95) (rT (kS (aK A)) n r) → (∀ q, q ≠ 95 → I' q = I q) → Q none I' L) : Zm G 197 [.ref 93, .int (nI r), .int (nI n)] I L Q := by
  obtain ⟨⟨so, sz, sst, lo, po, eo⟩, ok0, ok1, oi0, oi1, ot, ob, of_, or_, oh⟩ := id ho
  obtain ⟨o1, o2, o3, o4, o5, o6, o7⟩ := id so
  obtain ⟨p1, p2, p3⟩ := id lo
  obtain ⟨u1, u2⟩ := id po
  obtain ⟨e1, e2⟩ := id eo
  have m3 : I 93 3 = nI (sn (kS (aK A))) := pm.1
  obtain ⟨z1, z2, z3⟩ := cn_0 (sn (kS (aK A))) (by omega)
  have hpw := pw_le z3 hn
  have loop : ∀ k i (I1 : zI), i + k = n → Mp (I1 95) (plG (kS (aK A)) (rwP (sn (kS (aK A))) n r) i) → (∀ q, q ≠ 95 → I1 q = I q) → Zp G 197 13 [some (.ref 93), some (.int (nI r)), some (.int (nI n)), some (.int (nI (np (sn (kS (aK A))) ^ (n - i)))), some (.int (nI i)), none] [] I1 L Q := by
    intro k
    induction k with
    | zero =>
      intro i I1 hi mp f1
      have e : i = n := by omega
      subst e
      refine Zp.iload k_197_13 rfl ?_
      refine Zp.iload_n k_197_15 rfl ?_
      refine Zp.icmp_geN k_197_16 (by omega) (by omega) (fun c_16 => ?_) (fun c_16 => absurd c_16 (by omega))
      refine Zp.vret k_197_62 vr_197 ?_
      exact hq I1 (pm.at f1) mp f1
    | succ k ih =>
      intro i I1 hi mp f1
      have hPp := hP (by omega)
      have g3 : I1 93 3 = nI (sn (kS (aK A))) := by rw [f1 93 (by decide)]; exact m3
      have hpw1 := pw_le z3 (show n - 1 - i ≤ 4 by omega)
      have hpw0 := pw_le z3 (show n - i ≤ 4 by omega)
      have hpp : 0 < np (sn (kS (aK A))) ^ (n - 1 - i) := Nat.pow_pos hPp
      have eq1 : np (sn (kS (aK A))) ^ (n - i) / np (sn (kS (aK A))) = np (sn (kS (aK A))) ^ (n - 1 - i) := by
        rw [show n - i = n - 1 - i + 1 by omega, Nat.pow_succ, Nat.mul_div_cancel _ hPp]
      have hdl : r / np (sn (kS (aK A))) ^ (n - 1 - i) % np (sn (kS (aK A))) < np (sn (kS (aK A))) := Nat.mod_lt _ hPp
      have hdv : r / np (sn (kS (aK A))) ^ (n - 1 - i) ≤ r := Nat.div_le_self _ _
      obtain ⟨b1, b2, b3⟩ := pt_ok (sn (kS (aK A))) (by omega) _ hdl
      have g105 : I1 105 (r / np (sn (kS (aK A))) ^ (n - 1 - i) % np (sn (kS (aK A)))) = nI (rwP (sn (kS (aK A))) n r i) := by rw [f1 105 (by decide)]; exact h105 _ hdl
      have b1' : rwP (sn (kS (aK A))) n r i / 10 < sn (kS (aK A)) := b1
      have b2' : rwP (sn (kS (aK A))) n r i % 10 < sn (kS (aK A)) := b2
      have b3' : rwP (sn (kS (aK A))) n r i < 45 := b3
      obtain ⟨q1, q2, q3, q4, q5⟩ := plG_n (kS (aK A)) (rwP (sn (kS (aK A))) n r) i
      have ho1 := plG_o so (rwP (sn (kS (aK A))) n r) i
      refine Zp.iload k_197_13 rfl ?_
      refine Zp.iload_n k_197_15 rfl ?_
      refine Zp.icmp_geN k_197_16 (by omega) (by omega) (fun c_16 => absurd c_16 (by omega)) (fun c_16 => ?_)
      refine Zp.iload_n k_197_19 rfl ?_
      refine Zp.aload_n k_197_20 rfl ?_
      refine Zp.callv0I v_193 k_197_21 m_93 (Nat.le_of_ble_eq_true rfl) (Nat.le_of_ble_eq_true rfl) (c_pairsM g3 (by omega) ⟨_, rfl, ?_⟩)
      refine Zp.idivN k_197_24 (by omega) (by omega) (by omega) ?_
      rw [eq1]
      refine Zp.istore_n [some (.ref _), some (.int _), some (.int _), some (.int _), some (.int _), none] k_197_25 (Nat.lt_of_lt_of_eq (zlt rfl : 3 < 6) vl_197.symm) rfl ?_
      refine Zp.aload_n k_197_26 rfl ?_
      refine Zp.getR k_197_27 rfl (zlt rfl) m_93 r_93_26 ?_
      refine Zp.iload_n k_197_30 rfl ?_
      refine Zp.iload_n k_197_31 rfl ?_
      refine Zp.idivN k_197_32 (by omega) (by omega) (by omega) ?_
      refine Zp.aload_n k_197_33 rfl ?_
      refine Zp.callv0I v_193 k_197_34 m_93 (Nat.le_of_ble_eq_true rfl) (Nat.le_of_ble_eq_true rfl) (c_pairsM g3 (by omega) ⟨_, rfl, ?_⟩)
      refine Zp.iremN k_197_37 (by omega) (by omega) (by omega) ?_
      refine Zp.iald _ k_197_38 m_105 rfl (by omega) (zlt rfl) g105 ?_
      refine Zp.istore [some (.ref _), some (.int _), some (.int _), some (.int _), some (.int _), some (.int _)] k_197_39 (Nat.lt_of_lt_of_eq (zlt rfl : 5 < 6) vl_197.symm) rfl ?_
      refine Zp.aload_n k_197_41 rfl ?_
      refine Zp.iload k_197_42 rfl ?_
      refine Zp.bipush (nI 10) k_197_44 (by decide) ?_
      refine Zp.idivN k_197_46 (by omega) (by omega) (by omega) ?_
      refine Zp.iload k_197_47 rfl ?_
      refine Zp.bipush (nI 10) k_197_49 (by decide) ?_
      refine Zp.iremN k_197_51 (by omega) (by omega) (by omega) ?_
      refine Zp.callv2I v_169 k_197_52 m_93 (Nat.le_of_ble_eq_true rfl) (Nat.le_of_ble_eq_true rfl) (c_stirsM mp ho1 (by omega) (by omega) (by omega) (fun I2 mp2 f2 => ⟨_, rfl, ?_⟩))
      refine Zp.pop k_197_55 rfl ?_
      refine Zp.iinc (nI (_ + 1)) [some (.ref _), some (.int _), some (.int _), some (.int _), some (.int _), some (.int _)] k_197_56 rfl (nI_1 _) (Nat.lt_of_lt_of_eq (zlt rfl : 4 < 6) vl_197.symm) rfl ?_
      refine Zp.goto k_197_59 ?_
      rw [show n - 1 - i = n - (i + 1) by omega]
      exact Zp.locs _ (zle_sub (by simp [zle])) (ih (i + 1) I2 (by omega) mp2 (fun q h => (f2.1 q h).trans (f1 q h)))
  refine Zm.go [some (.ref _), some (.int _), some (.int _), none, none, none] vl_197 rfl ?_
  refine Zp.aload_n k_197_0 rfl ?_
  refine Zp.iload_n k_197_1 rfl ?_
  refine Zp.callv1I v_195 k_197_2 m_93 (Nat.le_of_ble_eq_true rfl) (Nat.le_of_ble_eq_true rfl) (c_rowsOfM m3 (by omega) (by omega) ⟨_, rfl, ?_⟩)
  refine Zp.istore_n [some (.ref _), some (.int _), some (.int _), some (.int _), none, none] k_197_5 (Nat.lt_of_lt_of_eq (zlt rfl : 3 < 6) vl_197.symm) rfl ?_
  refine Zp.aload_n k_197_6 rfl ?_
  refine Zp.callv0V v_159 k_197_7 m_93 (Nat.le_of_ble_eq_true rfl) (Nat.le_of_ble_eq_true rfl) (c_goM pm ho (fun I2 pm2 mq xq s2 => ⟨rfl, ?_⟩))
  refine Zp.iconst (nI 0) k_197_10 (by decide) ?_
  refine Zp.istore [some (.ref _), some (.int _), some (.int _), some (.int _), some (.int _), none] k_197_11 (Nat.lt_of_lt_of_eq (zlt rfl : 4 < 6) vl_197.symm) rfl ?_
  exact loop n 0 I2 (by omega) mq s2
end ROWS3
