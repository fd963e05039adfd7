/-! THE TEXT: the reference's tokens -/
theorem b_or (x y : Int32) (i : Nat) : bt (x ||| y) i = (bt x i || bt y i) := by unfold bt; rw [Int32.toBitVec_or, BitVec.getLsbD_or]
theorem b_one : ∀ j, j < 32 → bt (nI 1) j = decide (j = 0) := by decide +kernel
theorem b_pow : ∀ i, i < 25 → ∀ j, j < 32 → bt (nI 1 <<< (nI i &&& 31)) j = decide (j = i) := by decide +kernel
theorem b_zero : ∀ j, j < 32 → bt 0 j = false := by decide +kernel
theorem told_r (w : Int32) {i : Nat} (h : i < 25) : ((w >>> (nI i &&& 31)) &&& nI 1) = nI 1 ↔ bt w i = true := by
  have e : bt ((w >>> (nI i &&& 31)) &&& nI 1) 0 = bt w i := by
    rw [b_and, b_one 0 (by decide), b_sshr i (by omega) w (by decide), if_pos (by omega)]
    simp
  constructor
  · intro z
    rw [z, b_one 0 (by decide)] at e
    rw [← e]
    rfl
  · intro z
    apply b_ext
    intro j hj
    rw [b_and, b_one j hj]
    by_cases h0 : j = 0
    · subst h0
      rw [b_sshr i (by omega) w (by decide), if_pos (by omega), Nat.add_zero, z]
      rfl
    · simp [h0]
theorem told_c (w : Int32) {i : Nat} (h : i < 25) : (w &&& (nI 1 <<< (nI i &&& 31))) = 0 ↔ bt w i = false := by
  constructor
  · intro z
    have e : bt (w &&& (nI 1 <<< (nI i &&& 31))) i = bt w i := by
      rw [b_and, b_pow i h i (by omega)]
      simp
    rw [← e, z]
    exact b_zero i (by omega)
  · intro z
    apply b_ext
    intro j hj
    rw [b_and, b_pow i h j hj, b_zero j hj]
    by_cases h0 : j = i
    · subst h0; rw [z]; rfl
    · simp [h0]
theorem and_or0 (w x y : Int32) : (w &&& (x ||| y)) = 0 ↔ (w &&& x) = 0 ∧ (w &&& y) = 0 := by
  constructor
  · intro z
    have e : ∀ j, j < 32 → (bt w j && (bt x j || bt y j)) = false := fun j hj => by rw [← b_or, ← b_and, z]; exact b_zero j hj
    constructor
    · apply b_ext
      intro j hj
      have := e j hj
      rw [b_and, b_zero j hj]
      cases h1 : bt w j <;> cases h2 : bt x j <;> simp_all
    · apply b_ext
      intro j hj
      have := e j hj
      rw [b_and, b_zero j hj]
      cases h1 : bt w j <;> cases h2 : bt y j <;> simp_all
  · rintro ⟨z1, z2⟩
    apply b_ext
    intro j hj
    have e1 : (bt w j && bt x j) = false := by rw [← b_and, z1]; exact b_zero j hj
    have e2 : (bt w j && bt y j) = false := by rw [← b_and, z2]; exact b_zero j hj
    rw [b_and, b_or, b_zero j hj]
    cases h1 : bt w j <;> cases h2 : bt x j <;> cases h3 : bt y j <;> simp_all
theorem hm_0 (w : Int32) {a b : Nat} (ha : a ≤ 4) (hb : b ≤ 4) : (w &&& hm 0 a b) = 0 ↔ bt w (5 * a + b) = false := by
  unfold hm
  rw [if_neg (by decide), and_or0, told_c w (show a * 5 + b < 25 by omega), Nat.mul_comm a 5]
  constructor
  · intro z; exact z.1
  · intro z
    refine ⟨z, ?_⟩
    apply b_ext
    intro j hj
    rw [b_and, show (nI 0) = (0 : Int32) from rfl, b_zero j hj]
    simp
theorem hm_1 (w : Int32) {a b : Nat} (ha : a ≤ 4) (hb : b ≤ 4) : (w &&& hm 1 a b) = 0 ↔ bt w (5 * a + b) = false ∧ bt w (5 * b + a) = false := by
  unfold hm
  rw [if_pos rfl, and_or0, told_c w (show a * 5 + b < 25 by omega), told_c w (show b * 5 + a < 25 by omega), Nat.mul_comm a 5, Nat.mul_comm b 5]
/-- the reference's tape holds T -/
def TpM (I : zI) (T : zTp) : Prop := I 93 18 = nI T.1 ∧ ∀ i, i < T.1 → I 104 i = nI (T.2 i)
def bA (T : zTp) (p : Nat) : Int32 := if p < T.1 then nI (T.2 p) else -1
theorem bA_t {T : zTp} (to : To T) (p : Nat) : (p < T.1 → (bA T p).toInt = T.2 p ∧ bA T p = nI (T.2 p) ∧ T.2 p < 128) ∧ (¬ p < T.1 → (bA T p).toInt = -1) := by
  constructor
  · intro h
    have hb := to.2 p h
    have e : bA T p = nI (T.2 p) := if_pos h
    exact ⟨by rw [e, nI_toInt (by omega)], e, hb⟩
  · intro h
    unfold bA
    rw [if_neg h]
    decide
/-- a token's sort in the reference -/
def srt (k : Nat) : Nat := if k = 0 then 1 else if k = 1 then 2 else if k = 2 then 3 else 0
/-- the reference looks at the token from p on -/
def RT (I : zI) (T : zTp) (p : Nat) : Prop := I 93 20 = nI (tok T p).2.1 ∧ ((tok T p).1 = 4 → I 93 23 = nI 1 ∧ I 93 24 = nI (tok T p).2.1) ∧ (¬ (tok T p).1 = 4 → I 93 23 = nI 0 ∧ I 93 19 = nI (tok T p).2.2 ∧ I 93 21 = nI (srt (tok T p).1) ∧ ((tok T p).1 = 1 → I 93 22 = nI (nv T (tok T p).2.1 ((tok T p).2.2 - (tok T p).2.1))))
/-- the reference has met a fault -/
def FT (I : zI) (c s : Nat) : Prop := I 93 23 = nI c ∧ I 93 24 = nI s ∧ 0 < c ∧ c < 10
def FrN (I I' : zI) : Prop := (∀ q, q ≠ 93 → I' q = I q) ∧ ∀ j, j < 19 ∨ 24 < j → I' 93 j = I 93 j
theorem FrN.rf (I : zI) : FrN I I := ⟨fun _ _ => rfl, fun _ _ => rfl⟩
theorem FrN.tr {I J K : zI} (h : FrN I J) (k : FrN J K) : FrN I K := ⟨fun q a => (k.1 q a).trans (h.1 q a), fun j a => (k.2 j a).trans (h.2 j a)⟩
theorem TpM.n {I I' : zI} {T : zTp} (h : TpM I T) (f : FrN I I') : TpM I' T := ⟨(f.2 18 (by omega)).trans h.1, by rw [f.1 104 (by decide)]; exact h.2⟩
theorem FrN.pu {I I' : zI} (h : FrN I I') {j : Nat} (x : Int32) (hj : 19 ≤ j ∧ j ≤ 24) : FrN I (zpu I' 93 j x) := ⟨fun q a => by rw [zpu_q _ _ _ a]; exact h.1 q a, fun k a => by rw [zpu_k _ _ _ (by omega)]; exact h.2 k a⟩
section NEXT
variable {G : zG} {I : zI} {L : zJ} {Q : zP} {T : zTp} {p s e c : Nat}
theorem c_byteAtM (tp : TpM I T) (to : To T) (hp : p < 2 ^ 20) (hq : Q (some (.int (bA T p))) I L) : Zm G 138 [.ref 93, .int (nI p)] I L Q := by
  have o1 := to.1
  by_cases w : p < T.1
  · have e : bA T p = nI (T.2 p) := if_pos w
    rw [e] at hq
    have gb := tp.2 p w
    refine Zm.go [some (.ref _), some (.int _)] vl_138 rfl ?_
    refine Zp.iload_n k_138_0 rfl ?_
    refine Zp.aload_n k_138_1 rfl ?_
    refine Zp.getV k_138_2 rfl (zlt rfl) m_93 tp.1 ?_
    refine Zp.icmp_geN k_138_5 (by omega) (by omega) (fun c_5 => absurd c_5 (by omega)) (fun c_5 => ?_)
    refine Zp.aload_n k_138_8 rfl ?_
    refine Zp.getR k_138_9 rfl (zlt rfl) m_93 r_93_17 ?_
    refine Zp.iload_n k_138_12 rfl ?_
    refine Zp.iald _ k_138_13 m_104 rfl (by omega) (zlt rfl) gb ?_
    refine Zp.goto k_138_14 ?_
    refine Zp.iret _ k_138_18 vr_138 rfl ?_
    exact hq
  · have e : bA T p = -1 := if_neg w
    rw [e] at hq
    refine Zm.go [some (.ref _), some (.int _)] vl_138 rfl ?_
    refine Zp.iload_n k_138_0 rfl ?_
    refine Zp.aload_n k_138_1 rfl ?_
    refine Zp.getV k_138_2 rfl (zlt rfl) m_93 tp.1 ?_
    refine Zp.icmp_geN k_138_5 (by omega) (by omega) (fun c_5 => ?_) (fun c_5 => absurd c_5 (by omega))
    refine Zp.iconst (-1) k_138_17 (by decide) ?_
    refine Zp.iret _ k_138_18 vr_138 rfl ?_
    exact hq
theorem c_needsM {g code : Nat} (h23 : I 93 23 = nI c) (hc : c < 10) (hg : g ≤ 1) (h20 : I 93 20 = nI s)
    (h1 : g = 1 ∨ ¬ c = 0 → Q none I L) (h2 : g = 0 → c = 0 → Q none (zpu (zpu I 93 23 (nI code)) 93 24 (nI s)) L) : Zm G 137 [.ref 93, .int (nI g), .int (nI code)] I L Q := by
  refine Zm.go [some (.ref _), some (.int _), some (.int _)] vl_137 rfl ?_
  refine Zp.iload_n k_137_0 rfl ?_
  refine Zp.if_neN k_137_1 (by omega) (fun c_1 => ?_) (fun c_1 => ?_)
  · refine Zp.vret k_137_24 vr_137 ?_
    first | exact h1 (by omega) | exact h2 (by omega) (by omega)
  · refine Zp.aload_n k_137_4 rfl ?_
    refine Zp.getV k_137_5 rfl (zlt rfl) m_93 h23 ?_
    refine Zp.if_neN k_137_8 (by omega) (fun c_8 => ?_) (fun c_8 => ?_)
    · refine Zp.vret k_137_24 vr_137 ?_
      first | exact h1 (by omega) | exact h2 (by omega) (by omega)
    · refine Zp.aload_n k_137_11 rfl ?_
      refine Zp.iload_n k_137_12 rfl ?_
      refine Zp.putI k_137_13 rfl (zlt rfl) m_93 ?_
      refine Zp.aload_n k_137_16 rfl ?_
      refine Zp.aload_n k_137_17 rfl ?_
      refine Zp.getV k_137_18 rfl (zlt rfl) m_93 (by first | exact h20 | exact zku_r (by decide) h20) ?_
      refine Zp.putI k_137_21 rfl (zlt rfl) m_93 ?_
      refine Zp.vret k_137_24 vr_137 ?_
      first | exact h1 (by omega) | exact h2 (by omega) (by omega)
theorem c_nextF (h23 : I 93 23 = nI c) (h0 : 0 < c) (hc : c < 10) (hq : Q none I L) : Zm G 142 [.ref 93] I L Q := by
  refine Zm.go [some (.ref _), none] vl_142 rfl ?_
  refine Zp.aload_n k_142_0 rfl ?_
  refine Zp.getV k_142_1 rfl (zlt rfl) m_93 h23 ?_
  refine Zp.if_leN k_142_4 (by omega) (fun c_4 => absurd c_4 (by omega)) (fun c_4 => ?_)
  refine Zp.vret k_142_7 vr_142 ?_
  exact hq
theorem tok_end {T : zTp} {p : Nat} (h : T.1 ≤ tks T p) : tok T p = (3, tks T p, tks T p) := if_pos h
theorem c_nextM (tp : TpM I T) (to : To T) (hp : p ≤ T.1) (h23 : I 93 23 = nI 0) (h19 : I 93 19 = nI p) (hq : ∀ I', RT I' T p → FrN I I' → Q none I' L) : Zm G 142 [.ref 93] I L Q := by
  obtain ⟨o1, o2⟩ := id to
  have hs := (rn_le T isBl T.1 p).2 hp
  have hs' : tks T p ≤ T.1 := hs
  have rest : ∀ I1, I1 93 19 = nI (tks T p) → I1 93 23 = nI 0 → FrN I I1 → Zp G 142 34 [some (.ref 93), none] [] I1 L Q := by
    intro I1 g19 g23 fr
    have tp1 := tp.n fr
    have ba := bA_t to (tks T p)
    have fr0 : FrN I (zpu I1 93 20 (nI (tks T p))) := fr.pu _ (by decide)
    have tp2 := tp.n fr0
    have w : T.1 ≤ tks T p ∨ tks T p < T.1 := by omega
    have nm : tks T p < T.1 → 97 ≤ T.2 (tks T p) → T.2 (tks T p) ≤ 122 → ∀ k q (I2 : zI), rn T isNm k q = rn T isNm T.1 (tks T p) → T.1 - q ≤ k → q ≤ T.1 → I2 93 19 = nI q → I2 93 20 = nI (tks T p) → I2 93 21 = nI 1 → I2 93 23 = nI 0 → FrN I I2 → ∀ x1 : Int32, Zp G 142 82 [some (.ref 93), some (.int x1)] [] I2 L Q := by
      intro w1 w2 w3 k
      have hg : 0 < rn T isNm T.1 (tks T p) - tks T p := by
        obtain ⟨m, hm⟩ : ∃ m, T.1 = m + 1 := ⟨T.1 - 1, by omega⟩
        have h5 := (rn_le T isNm m (tks T p + 1)).1
        have e5 : rn T isNm (m + 1) (tks T p) = if tks T p < T.1 ∧ isNm (T.2 (tks T p)) = true then rn T isNm m (tks T p + 1) else tks T p := rfl
        rw [if_pos ⟨w1, isNm_i.mpr ⟨w2, w3⟩⟩] at e5
        rw [hm, e5]
        omega
      have ht : tok T p = (0, tks T p, rn T isNm T.1 (tks T p)) := by
        unfold tok
        rw [if_neg (by omega), if_neg (by omega), if_pos w2, if_pos hg]
      have fin : ∀ I2 : zI, I2 93 19 = nI (rn T isNm T.1 (tks T p)) → I2 93 20 = nI (tks T p) → I2 93 21 = nI 1 → I2 93 23 = nI 0 → RT I2 T p := fun I2 a b c d => by
        unfold RT
        rw [ht]
        exact ⟨b, fun z => absurd z (show ¬ 0 = 4 by decide), fun _ => ⟨d, a, c, fun z => absurd z (show ¬ 0 = 1 by decide)⟩⟩
      induction k with
      | zero =>
        intro q I2 hr hk hqT f19 f20 f21 f23 fr2 x1
        have e : q = T.1 := by omega
        subst e
        have tp3 := tp.n fr2
        have bq := (bA_t to T.1).2 (by omega)
        refine Zp.aload_n k_142_82 rfl ?_
        refine Zp.aload_n k_142_83 rfl ?_
        refine Zp.getV k_142_84 rfl (zlt rfl) m_93 f19 ?_
        refine Zp.callv1I v_138 k_142_87 m_93 (Nat.le_of_ble_eq_true rfl) (Nat.le_of_ble_eq_true rfl) (c_byteAtM tp3 to (by omega) ⟨_, rfl, ?_⟩)
        refine Zp.i2l k_142_90 ?_
        refine Zp.ldc2 (lN 97) k_142_91 (by decide) ?_
        refine Zp.ldc2 (lN 122) k_142_94 (by decide) ?_
        refine Zp.calls3I vs_131 k_142_97 (Nat.le_of_ble_eq_true rfl) (Nat.le_of_ble_eq_true rfl) (c_in (zi2l _) (lN_z (by decide)) (lN_z (by decide)) ⟨_, rfl, ?_⟩)
        refine Zp.if_eqB k_142_100 (fun c_100 => ?_) (fun c_100 => absurd c_100 (by omega))
        refine Zp.vret k_142_274 vr_142 ?_
        exact hq I2 (fin I2 (f19.trans (congrArg nI hr)) f20 f21 f23) fr2
      | succ k ih =>
        intro q I2 hr hk hqT f19 f20 f21 f23 fr2 x1
        have tp3 := tp.n fr2
        have bq := bA_t to q
        have hr2 : rn T isNm (k + 1) q = if q < T.1 ∧ isNm (T.2 q) = true then rn T isNm k (q + 1) else q := rfl
        have hi := isNm_i (b := T.2 q)
        refine Zp.aload_n k_142_82 rfl ?_
        refine Zp.aload_n k_142_83 rfl ?_
        refine Zp.getV k_142_84 rfl (zlt rfl) m_93 f19 ?_
        refine Zp.callv1I v_138 k_142_87 m_93 (Nat.le_of_ble_eq_true rfl) (Nat.le_of_ble_eq_true rfl) (c_byteAtM tp3 to (by omega) ⟨_, rfl, ?_⟩)
        refine Zp.i2l k_142_90 ?_
        refine Zp.ldc2 (lN 97) k_142_91 (by decide) ?_
        refine Zp.ldc2 (lN 122) k_142_94 (by decide) ?_
        refine Zp.calls3I vs_131 k_142_97 (Nat.le_of_ble_eq_true rfl) (Nat.le_of_ble_eq_true rfl) (c_in (zi2l _) (lN_z (by decide)) (lN_z (by decide)) ⟨_, rfl, ?_⟩)
        refine Zp.if_eqB k_142_100 (fun c_100 => ?_) (fun c_100 => ?_)
        · refine Zp.vret k_142_274 vr_142 ?_
          rw [if_neg (fun z => by have := hi.mp z.2; have := bq.1 z.1; omega)] at hr2
          exact hq I2 (fin I2 (f19.trans (congrArg nI (hr2.symm.trans hr))) f20 f21 f23) fr2
        · refine Zp.aload_n k_142_103 rfl ?_
          refine Zp.dup k_142_104 rfl ?_
          refine Zp.getV k_142_105 rfl (zlt rfl) m_93 f19 ?_
          refine Zp.iconst (nI 1) k_142_108 (by decide) ?_
          refine Zp.iaddN k_142_109 ?_
          refine Zp.putI k_142_110 rfl (zlt rfl) m_93 ?_
          refine Zp.goto k_142_113 ?_
          have w9 : q < T.1 := by
            rcases Nat.lt_or_ge q T.1 with z | z
            · exact z
            · have := bq.2 (by omega); omega
          have b9 := bq.1 w9
          rw [if_pos ⟨w9, hi.mpr ⟨by omega, by omega⟩⟩] at hr2
          exact ih (q + 1) _ (hr2.symm.trans hr) (by omega) (by omega) (zpu_s _ _ _ _) (by rw [zpu_k _ _ _ (by decide)]; exact f20) (by rw [zpu_k _ _ _ (by decide)]; exact f21) (by rw [zpu_k _ _ _ (by decide)]; exact f23) (fr2.pu _ (by decide)) x1
    have dg : tks T p < T.1 → 48 ≤ T.2 (tks T p) → T.2 (tks T p) ≤ 57 → ∀ k j (I2 : zI), rn T isDg k (tks T p + j) = rn T isDg T.1 (tks T p) → T.1 - (tks T p + j) ≤ k → tks T p + j ≤ T.1 → I2 93 19 = nI (tks T p + j) → I2 93 20 = nI (tks T p) → I2 93 21 = nI 2 → I2 93 22 = nI (nv T (tks T p) (min j 2)) → I2 93 23 = nI 0 → FrN I I2 → ∀ x1 : Int32, Zp G 142 140 [some (.ref 93), some (.int x1)] [] I2 L Q := by
      intro w1 w2 w3 k
      have hg : 0 < rn T isDg T.1 (tks T p) - tks T p := by
        obtain ⟨m, hm⟩ : ∃ m, T.1 = m + 1 := ⟨T.1 - 1, by omega⟩
        have h5 := (rn_le T isDg m (tks T p + 1)).1
        have e5 : rn T isDg (m + 1) (tks T p) = if tks T p < T.1 ∧ isDg (T.2 (tks T p)) = true then rn T isDg m (tks T p + 1) else tks T p := rfl
        rw [if_pos ⟨w1, isDg_i.mpr ⟨w2, w3⟩⟩] at e5
        rw [hm, e5]
        omega
      have hge := (rn_le T isDg T.1 (tks T p))
      have ht : tok T p = (if rn T isDg T.1 (tks T p) - tks T p ≤ 2 then 1 else 4, tks T p, rn T isDg T.1 (tks T p)) := by
        unfold tok
        rw [if_neg (by omega), if_neg (by omega), if_neg (by omega)]
        by_cases z : rn T isDg T.1 (tks T p) - tks T p ≤ 2
        · rw [if_pos ⟨hg, z⟩, if_pos z]
        · rw [if_neg (fun y => z y.2), if_neg z]
      have end_ : ∀ (j : Nat) (I2 : zI), tks T p + j = rn T isDg T.1 (tks T p) → tks T p + j ≤ T.1 → I2 93 19 = nI (tks T p + j) → I2 93 20 = nI (tks T p) → I2 93 21 = nI 2 → I2 93 22 = nI (nv T (tks T p) (min j 2)) → I2 93 23 = nI 0 → FrN I I2 → ∀ x1 : Int32, Zp G 142 217 [some (.ref 93), some (.int x1)] [] I2 L Q := by
        intro j I2 hj hjT f19 f20 f21 f22 f23 fr2 x1
        have ok : j ≤ 2 → RT I2 T p := fun z => by
          unfold RT
          rw [ht, if_pos (by omega)]
          refine ⟨f20, fun z2 => absurd z2 (show ¬ 1 = 4 by decide), fun _ => ⟨f23, by rw [f19, hj], f21, fun _ => ?_⟩⟩
          rw [f22, show min j 2 = rn T isDg T.1 (tks T p) - tks T p by omega]
        have no : ¬ j ≤ 2 → RT (zpu (zpu I2 93 23 (nI 1)) 93 24 (nI (tks T p))) T p := fun z => by
          unfold RT
          rw [ht, if_neg (by omega)]
          exact ⟨by rw [zpu_k _ _ _ (by decide), zpu_k _ _ _ (by decide)]; exact f20, fun _ => ⟨by rw [zpu_k _ _ _ (by decide), zpu_s], zpu_s _ _ _ _⟩, fun z2 => absurd rfl z2⟩
        refine Zp.aload_n k_142_217 rfl ?_
        refine Zp.aload_n k_142_218 rfl ?_
        refine Zp.getV k_142_219 rfl (zlt rfl) m_93 f19 ?_
        refine Zp.aload_n k_142_222 rfl ?_
        refine Zp.getV k_142_223 rfl (zlt rfl) m_93 f20 ?_
        refine Zp.isubN k_142_226 (by omega) ?_
        refine Zp.iconst (nI 2) k_142_227 (by decide) ?_
        refine Zp.icmp_gtN k_142_228 (by omega) (by omega) (fun c_228 => ?_) (fun c_228 => ?_)
        · refine Zp.iconst (nI 0) k_142_235 (by decide) ?_
          refine Zp.iconst (nI 1) k_142_236 (by decide) ?_
          refine Zp.callv2V v_137 k_142_237 m_93 (Nat.le_of_ble_eq_true rfl) (Nat.le_of_ble_eq_true rfl) (c_needsM f23 (by decide) (by decide) f20 (fun z => ⟨rfl, ?_⟩) (fun z z2 => ⟨rfl, ?_⟩))
          · refine Zp.goto k_142_240 ?_
            refine Zp.vret k_142_274 vr_142 ?_
            first | exact hq I2 (ok (by omega)) fr2 | (exfalso; omega)
          · refine Zp.goto k_142_240 ?_
            refine Zp.vret k_142_274 vr_142 ?_
            first | (exfalso; omega) | exact hq _ (no (by omega)) ((fr2.pu _ (by decide)).pu _ (by decide))
        · refine Zp.iconst (nI 1) k_142_231 (by decide) ?_
          refine Zp.goto k_142_232 ?_
          refine Zp.iconst (nI 1) k_142_236 (by decide) ?_
          refine Zp.callv2V v_137 k_142_237 m_93 (Nat.le_of_ble_eq_true rfl) (Nat.le_of_ble_eq_true rfl) (c_needsM f23 (by decide) (by decide) f20 (fun z => ⟨rfl, ?_⟩) (fun z z2 => ⟨rfl, ?_⟩))
          · refine Zp.goto k_142_240 ?_
            refine Zp.vret k_142_274 vr_142 ?_
            first | exact hq I2 (ok (by omega)) fr2 | (exfalso; omega)
          · refine Zp.goto k_142_240 ?_
            refine Zp.vret k_142_274 vr_142 ?_
            first | (exfalso; omega) | exact hq _ (no (by omega)) ((fr2.pu _ (by decide)).pu _ (by decide))
      induction k with
      | zero =>
        intro j I2 hr hk hqT f19 f20 f21 f22 f23 fr2 x1
        have e : tks T p + j = T.1 := by omega
        have tp3 := tp.n fr2
        have bq := (bA_t to (tks T p + j)).2 (by omega)
        refine Zp.aload_n k_142_140 rfl ?_
        refine Zp.aload_n k_142_141 rfl ?_
        refine Zp.getV k_142_142 rfl (zlt rfl) m_93 f19 ?_
        refine Zp.callv1I v_138 k_142_145 m_93 (Nat.le_of_ble_eq_true rfl) (Nat.le_of_ble_eq_true rfl) (c_byteAtM tp3 to (by omega) ⟨_, rfl, ?_⟩)
        refine Zp.i2l k_142_148 ?_
        refine Zp.ldc2 (lN 48) k_142_149 (by decide) ?_
        refine Zp.ldc2 (lN 57) k_142_152 (by decide) ?_
        refine Zp.calls3I vs_131 k_142_155 (Nat.le_of_ble_eq_true rfl) (Nat.le_of_ble_eq_true rfl) (c_in (zi2l _) (lN_z (by decide)) (lN_z (by decide)) ⟨_, rfl, ?_⟩)
        refine Zp.if_eqB k_142_158 (fun c_158 => ?_) (fun c_158 => absurd c_158 (by omega))
        exact end_ j I2 hr hqT f19 f20 f21 f22 f23 fr2 x1
      | succ k ih =>
        intro j I2 hr hk hqT f19 f20 f21 f22 f23 fr2 x1
        have tp3 := tp.n fr2
        have bq := bA_t to (tks T p + j)
        have hr2 : rn T isDg (k + 1) (tks T p + j) = if tks T p + j < T.1 ∧ isDg (T.2 (tks T p + j)) = true then rn T isDg k (tks T p + j + 1) else tks T p + j := rfl
        have hi := isDg_i (b := T.2 (tks T p + j))
        by_cases w9 : tks T p + j < T.1 ∧ isDg (T.2 (tks T p + j)) = true
        · rw [if_pos w9] at hr2
          have b9 := bq.1 w9.1
          have d9 := hi.mp w9.2
          have nvl := nv_lt to (s := tks T p) (min j 2) (by omega) (by omega)
          have nx : ∀ v, v = nv T (tks T p) (min (j + 1) 2) → Zp G 142 201 [some (.ref 93), some (.int x1)] [.int (nI v), .ref 93] I2 L Q := by
            intro v hv
            subst hv
            refine Zp.putI k_142_201 rfl (zlt rfl) m_93 ?_
            refine Zp.aload_n k_142_204 rfl ?_
            refine Zp.dup k_142_205 rfl ?_
            refine Zp.getV k_142_206 rfl (zlt rfl) m_93 ((zpu_k I2 93 _ (by decide)).trans f19) ?_
            refine Zp.iconst (nI 1) k_142_209 (by decide) ?_
            refine Zp.iaddN k_142_210 ?_
            refine Zp.putI k_142_211 rfl (zlt rfl) m_93 ?_
            refine Zp.goto k_142_214 ?_
            exact ih (j + 1) _ (hr2.symm.trans hr) (by omega) (by omega) (zpu_s _ _ _ _) (by rw [zpu_k _ _ _ (by decide), zpu_k _ _ _ (by decide)]; exact f20) (by rw [zpu_k _ _ _ (by decide), zpu_k _ _ _ (by decide)]; exact f21) (by rw [zpu_k _ _ _ (by decide), zpu_s]) (by rw [zpu_k _ _ _ (by decide), zpu_k _ _ _ (by decide)]; exact f23) ((fr2.pu _ (by decide)).pu _ (by decide)) x1
          refine Zp.aload_n k_142_140 rfl ?_
          refine Zp.aload_n k_142_141 rfl ?_
          refine Zp.getV k_142_142 rfl (zlt rfl) m_93 f19 ?_
          refine Zp.callv1I v_138 k_142_145 m_93 (Nat.le_of_ble_eq_true rfl) (Nat.le_of_ble_eq_true rfl) (c_byteAtM tp3 to (by omega) ⟨_, rfl, ?_⟩)
          refine Zp.i2l k_142_148 ?_
          refine Zp.ldc2 (lN 48) k_142_149 (by decide) ?_
          refine Zp.ldc2 (lN 57) k_142_152 (by decide) ?_
          refine Zp.calls3I vs_131 k_142_155 (Nat.le_of_ble_eq_true rfl) (Nat.le_of_ble_eq_true rfl) (c_in (zi2l _) (lN_z (by decide)) (lN_z (by decide)) ⟨_, rfl, ?_⟩)
          refine Zp.if_eqB k_142_158 (fun c_158 => absurd c_158 (by omega)) (fun c_158 => ?_)
          refine Zp.aload_n k_142_161 rfl ?_
          refine Zp.aload_n k_142_162 rfl ?_
          refine Zp.getV k_142_163 rfl (zlt rfl) m_93 f19 ?_
          refine Zp.aload_n k_142_166 rfl ?_
          refine Zp.getV k_142_167 rfl (zlt rfl) m_93 f20 ?_
          refine Zp.isubN k_142_170 (by omega) ?_
          refine Zp.iconst (nI 2) k_142_171 (by decide) ?_
          refine Zp.icmp_geN k_142_172 (by omega) (by omega) (fun c_172 => ?_) (fun c_172 => ?_)
          · refine Zp.aload_n k_142_197 rfl ?_
            refine Zp.getV k_142_198 rfl (zlt rfl) m_93 f22 ?_
            first
              | exact nx _ (by
                  have ej : min j 2 = j := by omega
                  rw [show min (j + 1) 2 = j + 1 by omega, ej]
                  show _ = 10 * nv T (tks T p) j + (T.2 (tks T p + j) - 48)
                  omega)
              | exact nx _ (by rw [show min (j + 1) 2 = min j 2 by omega])
          · refine Zp.bipush (nI 10) k_142_175 (by decide) ?_
            refine Zp.aload_n k_142_177 rfl ?_
            refine Zp.getV k_142_178 rfl (zlt rfl) m_93 f22 ?_
            refine Zp.imulN k_142_181 ?_
            refine Zp.aload_n k_142_182 rfl ?_
            refine Zp.aload_n k_142_183 rfl ?_
            refine Zp.getV k_142_184 rfl (zlt rfl) m_93 f19 ?_
            refine Zp.callv1I v_138 k_142_187 m_93 (Nat.le_of_ble_eq_true rfl) (Nat.le_of_ble_eq_true rfl) (c_byteAtM tp3 to (by omega) ⟨_, rfl, ?_⟩)
            rw [b9.2.1]
            refine Zp.iaddN k_142_190 ?_
            refine Zp.bipush (nI 48) k_142_191 (by decide) ?_
            refine Zp.isubN k_142_193 (by omega) ?_
            refine Zp.goto k_142_194 ?_
            first
              | exact nx _ (by
                  have ej : min j 2 = j := by omega
                  rw [show min (j + 1) 2 = j + 1 by omega, ej]
                  show _ = 10 * nv T (tks T p) j + (T.2 (tks T p + j) - 48)
                  omega)
              | exact nx _ (by rw [show min (j + 1) 2 = min j 2 by omega])
        · rw [if_neg w9] at hr2
          refine Zp.aload_n k_142_140 rfl ?_
          refine Zp.aload_n k_142_141 rfl ?_
          refine Zp.getV k_142_142 rfl (zlt rfl) m_93 f19 ?_
          refine Zp.callv1I v_138 k_142_145 m_93 (Nat.le_of_ble_eq_true rfl) (Nat.le_of_ble_eq_true rfl) (c_byteAtM tp3 to (by omega) ⟨_, rfl, ?_⟩)
          refine Zp.i2l k_142_148 ?_
          refine Zp.ldc2 (lN 48) k_142_149 (by decide) ?_
          refine Zp.ldc2 (lN 57) k_142_152 (by decide) ?_
          refine Zp.calls3I vs_131 k_142_155 (Nat.le_of_ble_eq_true rfl) (Nat.le_of_ble_eq_true rfl) (c_in (zi2l _) (lN_z (by decide)) (lN_z (by decide)) ⟨_, rfl, ?_⟩)
          refine Zp.if_eqB k_142_158 (fun c_158 => ?_) (fun c_158 => (by first | exact absurd c_158 (fun z => by rcases Nat.lt_or_ge (tks T p + j) T.1 with y | y; (have b9 := bq.1 y; exact w9 ⟨y, hi.mpr ⟨by omega, by omega⟩⟩); (have b9 := bq.2 (by omega); omega)) | exact absurd (fun z => by rcases Nat.lt_or_ge (tks T p + j) T.1 with y | y; (have b9 := bq.1 y; exact w9 ⟨y, hi.mpr ⟨by omega, by omega⟩⟩); (have b9 := bq.2 (by omega); omega)) c_158))
          exact end_ j I2 (hr2.symm.trans hr) hqT f19 f20 f21 f22 f23 fr2 x1
    have stp : ∀ (v : Nat) (I2 : zI), tks T p < T.1 → T.2 (tks T p) = v → ¬ (97 ≤ v ∧ v ≤ 122) → ¬ (48 ≤ v ∧ v ≤ 57) → I2 93 19 = nI (tks T p) → I2 93 20 = nI (tks T p) → I2 93 21 = nI 3 → I2 93 23 = nI 0 → FrN I I2 → ∀ g, g ≤ 1 → (g = 1 ↔ v = 59) → Zp G 142 260 [some (.ref 93), some (.int (bA T (tks T p)))] [.int (nI g), .ref 93] I2 L Q := by
      intro v I2 w1 hv w2 w3 f19 f20 f21 f23 fr2 g hg hgv
      subst hv
      have ok : T.2 (tks T p) = 59 → RT (zpu I2 93 19 (nI (tks T p + 1))) T p := fun z => by
        have ht : tok T p = (2, tks T p, tks T p + 1) := by
          unfold tok
          rw [if_neg (by omega), if_pos z]
        unfold RT
        rw [ht]
        exact ⟨by rw [zpu_k _ _ _ (by decide)]; exact f20, fun z2 => absurd z2 (show ¬ 2 = 4 by decide), fun _ => ⟨by rw [zpu_k _ _ _ (by decide)]; exact f23, zpu_s _ _ _ _, by rw [zpu_k _ _ _ (by decide)]; exact f21, fun z2 => absurd z2 (show ¬ 2 = 1 by decide)⟩⟩
      have no : ¬ T.2 (tks T p) = 59 → ∀ x, RT (zpu (zpu (zpu I2 93 23 (nI 1)) 93 24 (nI (tks T p))) 93 19 x) T p := fun z x => by
        have ht : (tok T p).1 = 4 ∧ (tok T p).2.1 = tks T p := by
          have e1 : rn T isNm T.1 (tks T p) = tks T p := by
            obtain ⟨m, hm⟩ : ∃ m, T.1 = m + 1 := ⟨T.1 - 1, by omega⟩
            have e5 : rn T isNm (m + 1) (tks T p) = if tks T p < T.1 ∧ isNm (T.2 (tks T p)) = true then rn T isNm m (tks T p + 1) else tks T p := rfl
            rw [if_neg (fun y => w2 (isNm_i.mp y.2))] at e5
            rw [hm, e5]
          have e2 : rn T isDg T.1 (tks T p) = tks T p := by
            obtain ⟨m, hm⟩ : ∃ m, T.1 = m + 1 := ⟨T.1 - 1, by omega⟩
            have e5 : rn T isDg (m + 1) (tks T p) = if tks T p < T.1 ∧ isDg (T.2 (tks T p)) = true then rn T isDg m (tks T p + 1) else tks T p := rfl
            rw [if_neg (fun y => w3 (isDg_i.mp y.2))] at e5
            rw [hm, e5]
          unfold tok
          rw [if_neg (by omega), if_neg z, e1, e2]
          split
          · exact ⟨if_neg (by omega), rfl⟩
          · exact ⟨if_neg (by omega), rfl⟩
        unfold RT
        rw [ht.1, ht.2]
        exact ⟨by rw [zpu_k _ _ _ (by decide), zpu_k _ _ _ (by decide), zpu_k _ _ _ (by decide)]; exact f20, fun _ => ⟨by rw [zpu_k _ _ _ (by decide), zpu_k _ _ _ (by decide), zpu_s], by rw [zpu_k _ _ _ (by decide), zpu_s]⟩, fun z2 => absurd rfl z2⟩
      refine Zp.iconst (nI 1) k_142_260 (by decide) ?_
      refine Zp.callv2V v_137 k_142_261 m_93 (Nat.le_of_ble_eq_true rfl) (Nat.le_of_ble_eq_true rfl) (c_needsM f23 (by decide) hg f20 (fun z => ⟨rfl, ?_⟩) (fun z z2 => ⟨rfl, ?_⟩))
      · refine Zp.aload_n k_142_264 rfl ?_
        refine Zp.dup k_142_265 rfl ?_
        refine Zp.getV k_142_266 rfl (zlt rfl) m_93 f19 ?_
        refine Zp.iconst (nI 1) k_142_269 (by decide) ?_
        refine Zp.iaddN k_142_270 ?_
        refine Zp.putI k_142_271 rfl (zlt rfl) m_93 ?_
        refine Zp.vret k_142_274 vr_142 ?_
        exact hq _ (ok (hgv.mp (by omega))) (fr2.pu _ (by decide))
      · refine Zp.aload_n k_142_264 rfl ?_
        refine Zp.dup k_142_265 rfl ?_
        refine Zp.getV k_142_266 rfl (zlt rfl) m_93 ((zpu_k _ 93 _ (by decide)).trans ((zpu_k _ 93 _ (by decide)).trans f19)) ?_
        refine Zp.iconst (nI 1) k_142_269 (by decide) ?_
        refine Zp.iaddN k_142_270 ?_
        refine Zp.putI k_142_271 rfl (zlt rfl) m_93 ?_
        refine Zp.vret k_142_274 vr_142 ?_
        exact hq _ (no (fun y => by have := hgv.mpr y; omega) _) (((fr2.pu _ (by decide)).pu _ (by decide)).pu _ (by decide))
    have b20 : zpu I1 93 20 (nI (tks T p)) 93 19 = nI (tks T p) := (zpu_k _ _ _ (by decide)).trans g19
    have b23 : zpu I1 93 20 (nI (tks T p)) 93 23 = nI 0 := (zpu_k _ _ _ (by decide)).trans g23
    refine Zp.aload_n k_142_34 rfl ?_
    refine Zp.aload_n k_142_35 rfl ?_
    refine Zp.getV k_142_36 rfl (zlt rfl) m_93 (by first | exact g19 | exact b20) ?_
    refine Zp.putI k_142_39 rfl (zlt rfl) m_93 ?_
    refine Zp.aload_n k_142_42 rfl ?_
    refine Zp.aload_n k_142_43 rfl ?_
    refine Zp.getV k_142_44 rfl (zlt rfl) m_93 (by first | exact g19 | exact b20) ?_
    refine Zp.callv1I v_138 k_142_47 m_93 (Nat.le_of_ble_eq_true rfl) (Nat.le_of_ble_eq_true rfl) (c_byteAtM tp2 to (by omega) ⟨_, rfl, ?_⟩)
    refine Zp.istore_n [some (.ref _), some (.int _)] k_142_50 (Nat.lt_of_lt_of_eq (zlt rfl : 1 < 2) vl_142.symm) rfl ?_
    refine Zp.iload_n k_142_51 rfl ?_
    refine Zp.if_geZ _ k_142_52 rfl (fun c_52 => ?_) (fun c_52 => ?_)
    · refine Zp.iload_n k_142_63 rfl ?_
      refine Zp.i2l k_142_64 ?_
      refine Zp.ldc2 (lN 97) k_142_65 (by decide) ?_
      refine Zp.ldc2 (lN 122) k_142_68 (by decide) ?_
      refine Zp.calls3I vs_131 k_142_71 (Nat.le_of_ble_eq_true rfl) (Nat.le_of_ble_eq_true rfl) (c_in (zi2l _) (lN_z (by decide)) (lN_z (by decide)) ⟨_, rfl, ?_⟩)
      refine Zp.if_eqB k_142_74 (fun c_74 => ?_) (fun c_74 => ?_)
      · refine Zp.iload_n k_142_116 rfl ?_
        refine Zp.i2l k_142_117 ?_
        refine Zp.ldc2 (lN 48) k_142_118 (by decide) ?_
        refine Zp.ldc2 (lN 57) k_142_121 (by decide) ?_
        refine Zp.calls3I vs_131 k_142_124 (Nat.le_of_ble_eq_true rfl) (Nat.le_of_ble_eq_true rfl) (c_in (zi2l _) (lN_z (by decide)) (lN_z (by decide)) ⟨_, rfl, ?_⟩)
        refine Zp.if_eqB k_142_127 (fun c_127 => ?_) (fun c_127 => ?_)
        · refine Zp.aload_n k_142_243 rfl ?_
          refine Zp.iconst (nI 3) k_142_244 (by decide) ?_
          refine Zp.putI k_142_245 rfl (zlt rfl) m_93 ?_
          refine Zp.aload_n k_142_248 rfl ?_
          refine Zp.iload_n k_142_249 rfl ?_
          refine Zp.bipush (nI 59) k_142_250 (by decide) ?_
          refine Zp.icmp_neZ _ _ k_142_252 rfl (nI_toInt (by omega)) (fun c_252 => ?_) (fun c_252 => ?_)
          · refine Zp.iconst (nI 0) k_142_259 (by decide) ?_
            have w9 : tks T p < T.1 := by
              rcases w with z | z
              · have := ba.2 (by omega); omega
              · exact z
            have b9 := ba.1 w9
            exact stp _ _ w9 rfl (by omega) (by omega) (by rw [zpu_k _ _ _ (by decide)]; exact b20) (by rw [zpu_k _ _ _ (by decide), zpu_s]) (zpu_s _ _ _ _) (by rw [zpu_k _ _ _ (by decide)]; exact b23) (fr0.pu _ (by decide)) _ (by decide) (by omega)
          · refine Zp.iconst (nI 1) k_142_255 (by decide) ?_
            refine Zp.goto k_142_256 ?_
            have w9 : tks T p < T.1 := by
              rcases w with z | z
              · have := ba.2 (by omega); omega
              · exact z
            have b9 := ba.1 w9
            exact stp _ _ w9 rfl (by omega) (by omega) (by rw [zpu_k _ _ _ (by decide)]; exact b20) (by rw [zpu_k _ _ _ (by decide), zpu_s]) (zpu_s _ _ _ _) (by rw [zpu_k _ _ _ (by decide)]; exact b23) (fr0.pu _ (by decide)) _ (by decide) (by omega)
        · refine Zp.aload_n k_142_130 rfl ?_
          refine Zp.iconst (nI 2) k_142_131 (by decide) ?_
          refine Zp.putI k_142_132 rfl (zlt rfl) m_93 ?_
          refine Zp.aload_n k_142_135 rfl ?_
          refine Zp.iconst (nI 0) k_142_136 (by decide) ?_
          refine Zp.putI k_142_137 rfl (zlt rfl) m_93 ?_
          have w9 : tks T p < T.1 := by
            rcases w with z | z
            · have := ba.2 (by omega); omega
            · exact z
          have b9 := ba.1 w9
          exact dg w9 (by omega) (by omega) T.1 0 _ rfl (by omega) hs' (by rw [zpu_k _ _ _ (by decide), zpu_k _ _ _ (by decide)]; exact b20) (by rw [zpu_k _ _ _ (by decide), zpu_k _ _ _ (by decide), zpu_s]) (by rw [zpu_k _ _ _ (by decide), zpu_s]) (zpu_s _ _ _ _) (by rw [zpu_k _ _ _ (by decide), zpu_k _ _ _ (by decide)]; exact b23) ((fr0.pu _ (by decide)).pu _ (by decide)) _
      · refine Zp.aload_n k_142_77 rfl ?_
        refine Zp.iconst (nI 1) k_142_78 (by decide) ?_
        refine Zp.putI k_142_79 rfl (zlt rfl) m_93 ?_
        have w9 : tks T p < T.1 := by
          rcases w with z | z
          · have := ba.2 (by omega); omega
          · exact z
        have b9 := ba.1 w9
        exact nm w9 (by omega) (by omega) T.1 (tks T p) _ rfl (by omega) hs' (by rw [zpu_k _ _ _ (by decide)]; exact b20) (by rw [zpu_k _ _ _ (by decide), zpu_s]) (zpu_s _ _ _ _) (by rw [zpu_k _ _ _ (by decide)]; exact b23) (fr0.pu _ (by decide)) _
    · refine Zp.aload_n k_142_55 rfl ?_
      refine Zp.iconst (nI 0) k_142_56 (by decide) ?_
      refine Zp.putI k_142_57 rfl (zlt rfl) m_93 ?_
      refine Zp.goto k_142_60 ?_
      refine Zp.vret k_142_274 vr_142 ?_
      have w9 : T.1 ≤ tks T p := by
        rcases w with z | z
        · exact z
        · have := ba.1 z; omega
      have ht := tok_end w9
      refine hq _ ?_ (fr0.pu _ (by decide))
      unfold RT
      rw [ht]
      exact ⟨by rw [zpu_k _ _ _ (by decide), zpu_s], fun z => absurd z (show ¬ 3 = 4 by decide), fun _ => ⟨by rw [zpu_k _ _ _ (by decide)]; exact b23, by rw [zpu_k _ _ _ (by decide)]; exact b20, zpu_s _ _ _ _, fun z => absurd z (show ¬ 3 = 1 by decide)⟩⟩
  have skip : ∀ k q (I1 : zI), rn T isBl k q = tks T p → T.1 - q ≤ k → q ≤ T.1 → I1 93 19 = nI q → I1 93 23 = nI 0 → FrN I I1 → Zp G 142 8 [some (.ref 93), none] [] I1 L Q := by
    intro k
    induction k with
    | zero =>
      intro q I1 hr hk hqT f19 f23 fr
      have e : q = T.1 := by omega
      subst e
      have tp3 := tp.n fr
      have bq := (bA_t to T.1).2 (by omega)
      refine Zp.aload_n k_142_8 rfl ?_
      refine Zp.aload_n k_142_9 rfl ?_
      refine Zp.getV k_142_10 rfl (zlt rfl) m_93 f19 ?_
      refine Zp.callv1I v_138 k_142_13 m_93 (Nat.le_of_ble_eq_true rfl) (Nat.le_of_ble_eq_true rfl) (c_byteAtM tp3 to (by omega) ⟨_, rfl, ?_⟩)
      refine Zp.bipush (nI 32) k_142_16 (by decide) ?_
      refine Zp.icmp_neZ _ _ k_142_18 rfl (nI_toInt (by omega)) (fun c_18 => ?_) (fun c_18 => absurd c_18 (by omega))
      exact rest I1 (f19.trans (congrArg nI hr)) f23 fr
    | succ k ih =>
      intro q I1 hr hk hqT f19 f23 fr
      have tp3 := tp.n fr
      have bq := bA_t to q
      have hr2 : rn T isBl (k + 1) q = if q < T.1 ∧ isBl (T.2 q) = true then rn T isBl k (q + 1) else q := rfl
      have hi := isBl_i (b := T.2 q)
      refine Zp.aload_n k_142_8 rfl ?_
      refine Zp.aload_n k_142_9 rfl ?_
      refine Zp.getV k_142_10 rfl (zlt rfl) m_93 f19 ?_
      refine Zp.callv1I v_138 k_142_13 m_93 (Nat.le_of_ble_eq_true rfl) (Nat.le_of_ble_eq_true rfl) (c_byteAtM tp3 to (by omega) ⟨_, rfl, ?_⟩)
      refine Zp.bipush (nI 32) k_142_16 (by decide) ?_
      refine Zp.icmp_neZ _ _ k_142_18 rfl (nI_toInt (by omega)) (fun c_18 => ?_) (fun c_18 => ?_)
      · rw [if_neg (fun z => by have := hi.mp z.2; have := bq.1 z.1; omega)] at hr2
        exact rest I1 (f19.trans (congrArg nI (hr2.symm.trans hr))) f23 fr
      · refine Zp.aload_n k_142_21 rfl ?_
        refine Zp.dup k_142_22 rfl ?_
        refine Zp.getV k_142_23 rfl (zlt rfl) m_93 f19 ?_
        refine Zp.iconst (nI 1) k_142_26 (by decide) ?_
        refine Zp.iaddN k_142_27 ?_
        refine Zp.putI k_142_28 rfl (zlt rfl) m_93 ?_
        refine Zp.goto k_142_31 ?_
        have w9 : q < T.1 := by
          rcases Nat.lt_or_ge q T.1 with z | z
          · exact z
          · have := bq.2 (by omega); omega
        have b9 := bq.1 w9
        rw [if_pos ⟨w9, hi.mpr (by omega)⟩] at hr2
        exact ih (q + 1) _ (hr2.symm.trans hr) (by omega) (by omega) (zpu_s _ _ _ _) (by rw [zpu_k _ _ _ (by decide)]; exact f23) (fr.pu _ (by decide))
  refine Zm.go [some (.ref _), none] vl_142 rfl ?_
  refine Zp.aload_n k_142_0 rfl ?_
  refine Zp.getV k_142_1 rfl (zlt rfl) m_93 h23 ?_
  refine Zp.if_leN k_142_4 (by omega) (fun c_4 => ?_) (fun c_4 => absurd c_4 (by omega))
  exact skip T.1 p I rfl (by omega) hp h19 h23 (FrN.rf I)
end NEXT
