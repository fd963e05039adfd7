/-! SLIPS, PLANS, WHAT WAS SEEN -/
theorem bit_at {u i : Nat} (hu : u < 64) (hi : i < 6) : ((nI u >>> (nI i &&& 31)) &&& nI 1) = nI (u / 2 ^ i % 2) := by
  have h : ∀ u, u < 64 → ∀ i, i < 6 → ((nI u >>> (nI i &&& 31)) &&& nI 1) = nI (u / 2 ^ i % 2) := by decide +kernel
  exact h u hu i hi
/-- slips: how many, which are used (bits), helpers, other ones, causes -/
abbrev zSl : Type := Nat × Nat × (Nat → Nat) × (Nat → Nat) × (Nat → Nat)
abbrev lc (P : zSl) : Nat := P.1
abbrev lu (P : zSl) : Nat := P.2.1
abbrev l1 (P : zSl) : Nat → Nat := P.2.2.1
abbrev l2 (P : zSl) : Nat → Nat := P.2.2.2.1
abbrev l3 (P : zSl) : Nat → Nat := P.2.2.2.2
def Lp (I : zI) (h : Nat) (P : zSl) : Prop := I h 0 = nI (lc P) ∧ I h 1 = nI (lu P) ∧ (∀ i, i < lc P → I (h + 1) i = nI (l1 P i)) ∧ (∀ i, i < lc P → I (h + 2) i = nI (l2 P i)) ∧ ∀ i, i < lc P → I (h + 3) i = nI (l3 P i)
def La (h : Nat) : Prop := M0[h]? = some (7, 0) ∧ M0[h + 1]? = some (50, 6) ∧ M0[h + 2]? = some (50, 6) ∧ M0[h + 3]? = some (50, 6) ∧ (h, 2, h + 1) ∈ R0 ∧ (h, 3, h + 2) ∈ R0 ∧ (h, 4, h + 3) ∈ R0
def Lo (n : Nat) (P : zSl) : Prop := lc P ≤ 6 ∧ lu P < 64 ∧ ∀ i, i < lc P → l1 P i < n ∧ l2 P i < n ∧ ¬ l1 P i = l2 P i ∧ 1 ≤ l3 P i ∧ l3 P i ≤ 9
theorem Lp.fr {I I' : zI} {h : Nat} {P : zSl} (hp : Lp I h P) (h0 : I' h = I h) (h1 : I' (h + 1) = I (h + 1)) (h2 : I' (h + 2) = I (h + 2)) (h3 : I' (h + 3) = I (h + 3)) : Lp I' h P := by
  unfold Lp at hp ⊢
  rw [h0, h1, h2, h3]
  exact hp
/-- a slip more -/
def sAdd (P : zSl) (a b c : Nat) : zSl := (lc P + 1, lu P, va_up (l1 P) (lc P) a, va_up (l2 P) (lc P) b, va_up (l3 P) (lc P) c)
/-- a slip's cause is felt -/
def woV (S : zSo) (P : zSl) (i : Nat) : Nat := min 9 (sht S (l1 P i * 5 + l2 P i) + l3 P i)
def woS (S : zSo) (P : zSl) (i : Nat) : zSo := sUh S (l1 P i * 5 + l2 P i) (woV S P i)
/-- a plan: how many pairs, the pairs by number -/
abbrev zPl : Type := Nat × (Nat → Nat)
def Pp (I : zI) (h : Nat) (P : zPl) : Prop := I h 0 = nI P.1 ∧ ∀ i, i < P.1 → I (h + 1) i = nI (P.2 i)
def Pa (h : Nat) : Prop := M0[h]? = some (2, 0) ∧ M0[h + 1]? = some (50, 8) ∧ (h, 1, h + 1) ∈ R0
def Po (n : Nat) (P : zPl) : Prop := P.1 ≤ 8 ∧ ∀ i, i < P.1 → P.2 i / 10 < P.2 i % 10 ∧ P.2 i % 10 < n ∧ P.2 i < 100
theorem Pp.fr {I I' : zI} {h : Nat} {P : zPl} (hp : Pp I h P) (h0 : I' h = I h) (h1 : I' (h + 1) = I (h + 1)) : Pp I' h P := by
  unfold Pp at hp ⊢
  rw [h0, h1]
  exact hp
def pAdd (P : zPl) (a b : Nat) : zPl := (P.1 + 1, va_up P.2 P.1 (10 * min a b + max a b))
/-- what was seen: how many, steps, turns -/
abbrev zSe : Type := Nat × (Nat → Nat) × (Nat → Nat)
def Ep (I : zI) (h : Nat) (P : zSe) : Prop := I h 0 = nI P.1 ∧ (∀ i, i < P.1 → I (h + 1) i = nI (P.2.1 i)) ∧ ∀ i, i < P.1 → I (h + 2) i = nI (P.2.2 i)
def Ea (h : Nat) : Prop := M0[h]? = some (5, 0) ∧ M0[h + 1]? = some (50, 6) ∧ M0[h + 2]? = some (50, 6) ∧ (h, 1, h + 1) ∈ R0 ∧ (h, 2, h + 2) ∈ R0
def Eo (P : zSe) : Prop := P.1 ≤ 6 ∧ ∀ i, i < P.1 → P.2.1 i ≤ 9 ∧ P.2.2 i ≤ 18
theorem Ep.fr {I I' : zI} {h : Nat} {P : zSe} (hp : Ep I h P) (h0 : I' h = I h) (h1 : I' (h + 1) = I (h + 1)) (h2 : I' (h + 2) = I (h + 2)) : Ep I' h P := by
  unfold Ep at hp ⊢
  rw [h0, h1, h2]
  exact hp
def eAdd (P : zSe) (n v : Nat) : zSe := (P.1 + 1, va_up P.2.1 P.1 n, va_up P.2.2 P.1 v)
/-! what a plan does -/
abbrev canS (S : zSo) : Prop := sset S = 0 ∧ sstep S < snoon S
theorem stS_n (S : zSo) (a b : Nat) : sn (stS S a b) = sn S := by unfold stS; split <;> rfl
theorem stS_need (S : zSo) (a b : Nat) : sneed (stS S a b) = sneed S := by unfold stS; split <;> rfl
theorem stS_noon (S : zSo) (a b : Nat) : snoon (stS S a b) = snoon S := by unfold stS; split <;> rfl
theorem stS_step (S : zSo) (a b : Nat) : sstep (stS S a b) = sstep S + 1 := by unfold stS; split <;> rfl
theorem stS_kd (S : zSo) (a b : Nat) : skd (stS S a b) = skd S := by unfold stS; split <;> rfl
def plG (S : zSo) (pr : Nat → Nat) : Nat → zSo
  | 0 => S
  | i + 1 => if canS (plG S pr i) then stS (plG S pr i) (pr i / 10) (pr i % 10) else plG S pr i
def plF (S : zSo) (pr : Nat → Nat) : Nat → Int32
  | 0 => -4
  | i + 1 => if plF S pr i = -4 then (if canS (plG S pr i) then -4 else nI i) else plF S pr i
theorem plG_n (S : zSo) (pr : Nat → Nat) : ∀ i, sn (plG S pr i) = sn S ∧ sneed (plG S pr i) = sneed S ∧ snoon (plG S pr i) = snoon S ∧ skd (plG S pr i) = skd S ∧ sstep (plG S pr i) ≤ sstep S + i
  | 0 => ⟨rfl, rfl, rfl, rfl, Nat.le_refl _⟩
  | i + 1 => by
    obtain ⟨h1, h2, h3, h4, h5⟩ := plG_n S pr i
    unfold plG
    split
    · exact ⟨(stS_n _ _ _).trans h1, (stS_need _ _ _).trans h2, (stS_noon _ _ _).trans h3, (stS_kd _ _ _).trans h4, by rw [stS_step]; omega⟩
    · exact ⟨h1, h2, h3, h4, by omega⟩
theorem plG_o {S : zSo} (ho : So S) (pr : Nat → Nat) : ∀ i, So (plG S pr i)
  | 0 => ho
  | i + 1 => by
    unfold plG
    split
    · exact (plG_o ho pr i).st _ _
    · exact plG_o ho pr i
theorem plG_stop {S : zSo} {pr : Nat → Nat} {i : Nat} (h : ¬ canS (plG S pr i)) : ∀ k, plG S pr (i + k) = plG S pr i
  | 0 => rfl
  | k + 1 => by
    have ih := plG_stop h k
    show (if canS (plG S pr (i + k)) then _ else plG S pr (i + k)) = _
    rw [ih, if_neg h]
theorem plF_stop {S : zSo} {pr : Nat → Nat} {i : Nat} (hi : i < 2 ^ 30) (h : ¬ canS (plG S pr i)) (hf : plF S pr i = -4) : ∀ k, plF S pr (i + (k + 1)) = nI i
  | 0 => by
    show (if plF S pr i = -4 then (if canS (plG S pr i) then -4 else nI i) else plF S pr i) = _
    rw [if_pos hf, if_neg h]
  | k + 1 => by
    have ih := plF_stop hi h hf k
    show (if plF S pr (i + (k + 1)) = -4 then _ else plF S pr (i + (k + 1))) = _
    rw [ih, if_neg (fun z => by have := congrArg Int32.toInt z; rw [nI_toInt (by omega), show (-4 : Int32).toInt = -4 by decide] at this; omega)]
theorem plF_go {S : zSo} {pr : Nat → Nat} {i : Nat} (h : canS (plG S pr i)) (hf : plF S pr i = -4) : plF S pr (i + 1) = -4 := by
  show (if plF S pr i = -4 then (if canS (plG S pr i) then -4 else nI i) else plF S pr i) = _
  rw [if_pos hf, if_pos h]
theorem zpu_r {I : zI} {q p k j : Nat} {x v : Int32} (h : p ≠ q) (hv : I p j = v) : zpu I q k x p j = v := by rw [zpu_q _ _ _ h]; exact hv
section PARTS
variable {G : zG} {h h2 g : Nat} {I : zI} {L : zJ} {Q : zP} {S : zSo} {P : zSl} {n : Nat}
theorem c_has {x : Int32} (la : La h) (lp : Lp I h P) (lo : Lo n P) (hq : Q (some (.int (zbo (0 ≤ x.toInt ∧ x.toInt < (lc P : Int))))) I L) : Zm G 49 [.ref h, .int x] I L Q := by
  have o1 := lo.1
  refine Zm.go [some (.ref _), some (.int _)] vl_49 rfl ?_
  refine Zp.iload_n k_49_0 rfl ?_
  refine Zp.if_ltZ _ k_49_1 rfl (fun c_1 => ?_) (fun c_1 => ?_)
  · refine Zp.iconst (nI 0) k_49_16 (by decide) ?_
    refine Zp.iret _ k_49_17 vr_49 rfl ?_
    exact zq0 hq (by omega)
  · refine Zp.iload_n k_49_4 rfl ?_
    refine Zp.aload_n k_49_5 rfl ?_
    refine Zp.getV k_49_6 rfl (zlt rfl) la.1 lp.1 ?_
    refine Zp.icmp_geZ _ _ k_49_9 rfl (nI_toInt (by omega)) (fun c_9 => ?_) (fun c_9 => ?_)
    · refine Zp.iconst (nI 0) k_49_16 (by decide) ?_
      refine Zp.iret _ k_49_17 vr_49 rfl ?_
      exact zq0 hq (by omega)
    · refine Zp.iconst (nI 1) k_49_12 (by decide) ?_
      refine Zp.goto k_49_13 ?_
      refine Zp.iret _ k_49_17 vr_49 rfl ?_
      exact zq1 hq (by omega)
theorem c_isUsed {i : Nat} (la : La h) (lp : Lp I h P) (lo : Lo n P) (hi : i < 6) (hq : Q (some (.int (zbo (lu P / 2 ^ i % 2 = 1)))) I L) : Zm G 50 [.ref h, .int (nI i)] I L Q := by
  have o1 := lo.2.1
  refine Zm.go [some (.ref _), some (.int _)] vl_50 rfl ?_
  refine Zp.aload_n k_50_0 rfl ?_
  refine Zp.getV k_50_1 rfl (zlt rfl) la.1 lp.2.1 ?_
  refine Zp.iload_n k_50_4 rfl ?_
  refine Zp.ishr k_50_5 ?_
  refine Zp.iconst (nI 1) k_50_6 (by decide) ?_
  refine Zp.iand k_50_7 ?_
  rw [bit_at o1 hi]
  refine Zp.iconst (nI 1) k_50_8 (by decide) ?_
  refine Zp.icmp_neN k_50_9 (by omega) (by omega) (fun c_9 => ?_) (fun c_9 => ?_)
  · refine Zp.iconst (nI 0) k_50_16 (by decide) ?_
    refine Zp.iret _ k_50_17 vr_50 rfl ?_
    exact zq0 hq (by omega)
  · refine Zp.iconst (nI 1) k_50_12 (by decide) ?_
    refine Zp.goto k_50_13 ?_
    refine Zp.iret _ k_50_17 vr_50 rfl ?_
    exact zq1 hq (by omega)
theorem c_Slips_isFull (la : La h) (lp : Lp I h P) (lo : Lo n P) (hq : Q (some (.int (zbo (6 ≤ lc P)))) I L) : Zm G 51 [.ref h] I L Q := by
  have o1 := lo.1
  refine Zm.go [some (.ref _)] vl_51 rfl ?_
  refine Zp.aload_n k_51_0 rfl ?_
  refine Zp.getV k_51_1 rfl (zlt rfl) la.1 lp.1 ?_
  refine Zp.bipush (nI 6) k_51_4 (by decide) ?_
  refine Zp.icmp_ltN k_51_6 (by omega) (by omega) (fun c_6 => ?_) (fun c_6 => ?_)
  · refine Zp.iconst (nI 0) k_51_13 (by decide) ?_
    refine Zp.iret _ k_51_14 vr_51 rfl ?_
    exact zq0 hq (by omega)
  · refine Zp.iconst (nI 1) k_51_9 (by decide) ?_
    refine Zp.goto k_51_10 ?_
    refine Zp.iret _ k_51_14 vr_51 rfl ?_
    exact zq1 hq (by omega)
theorem Lp.add {a b c : Nat} (lp : Lp I h P) (ha : lc P < 6) : Lp (zpu (zpu (zpu (zpu I (h + 1) (lc P) (nI a)) (h + 2) (lc P) (nI b)) (h + 3) (lc P) (nI c)) h 0 (nI (lc P + 1))) h (sAdd P a b c) := by
  obtain ⟨p0, p1, p2, p3, p4⟩ := lp
  refine ⟨zpu_s _ _ _ _, ?_, fun i hi => ?_, fun i hi => ?_, fun i hi => ?_⟩
  · rw [zpu_k _ _ _ (by decide), zpu_q _ _ _ (by omega), zpu_q _ _ _ (by omega), zpu_q _ _ _ (by omega)]; exact p1
  · have hi' : i < lc P + 1 := hi
    show _ = nI (va_up (l1 P) (lc P) a i)
    rw [zpu_q _ _ _ (by omega), zpu_q _ _ _ (by omega), zpu_q _ _ _ (by omega)]
    by_cases e : i = lc P
    · subst e; rw [zpu_s, va_up_s]
    · rw [zpu_k _ _ _ e, va_up_n _ _ e]; exact p2 i (by omega)
  · have hi' : i < lc P + 1 := hi
    show _ = nI (va_up (l2 P) (lc P) b i)
    rw [zpu_q _ _ _ (by omega), zpu_q _ _ _ (by omega)]
    by_cases e : i = lc P
    · subst e; rw [zpu_s, va_up_s]
    · rw [zpu_k _ _ _ e, va_up_n _ _ e, zpu_q _ _ _ (by omega)]; exact p3 i (by omega)
  · have hi' : i < lc P + 1 := hi
    show _ = nI (va_up (l3 P) (lc P) c i)
    rw [zpu_q _ _ _ (by omega)]
    by_cases e : i = lc P
    · subst e; rw [zpu_s, va_up_s]
    · rw [zpu_k _ _ _ e, va_up_n _ _ e, zpu_q _ _ _ (by omega), zpu_q _ _ _ (by omega)]; exact p4 i (by omega)
theorem c_Slips_add {a b c : Nat} (la : La h) (lp : Lp I h P) (ha : lc P < 6) (hq : ∀ I', Lp I' h (sAdd P a b c) → (∀ q, q ≠ h → q ≠ h + 1 → q ≠ h + 2 → q ≠ h + 3 → I' q = I q) → Q none I' L) : Zm G 52 [.ref h, .int (nI a), .int (nI b), .int (nI c)] I L Q := by
  refine Zm.go [some (.ref _), some (.int _), some (.int _), some (.int _)] vl_52 rfl ?_
  refine Zp.aload_n k_52_0 rfl ?_
  refine Zp.getR k_52_1 rfl (zlt rfl) la.1 la.2.2.2.2.1 ?_
  refine Zp.aload_n k_52_4 rfl ?_
  refine Zp.getV k_52_5 rfl (zlt rfl) la.1 (by first | exact lp.1 | exact zpu_r (by omega) (lp.1) | exact zpu_r (by omega) (zpu_r (by omega) (lp.1)) | exact zpu_r (by omega) (zpu_r (by omega) (zpu_r (by omega) (lp.1)))) ?_
  refine Zp.iload_n k_52_8 rfl ?_
  refine Zp.iast _ k_52_9 la.2.1 rfl (by omega) (zlt rfl) ?_
  refine Zp.aload_n k_52_10 rfl ?_
  refine Zp.getR k_52_11 rfl (zlt rfl) la.1 la.2.2.2.2.2.1 ?_
  refine Zp.aload_n k_52_14 rfl ?_
  refine Zp.getV k_52_15 rfl (zlt rfl) la.1 (by first | exact lp.1 | exact zpu_r (by omega) (lp.1) | exact zpu_r (by omega) (zpu_r (by omega) (lp.1)) | exact zpu_r (by omega) (zpu_r (by omega) (zpu_r (by omega) (lp.1)))) ?_
  refine Zp.iload_n k_52_18 rfl ?_
  refine Zp.iast _ k_52_19 la.2.2.1 rfl (by omega) (zlt rfl) ?_
  refine Zp.aload_n k_52_20 rfl ?_
  refine Zp.getR k_52_21 rfl (zlt rfl) la.1 la.2.2.2.2.2.2 ?_
  refine Zp.aload_n k_52_24 rfl ?_
  refine Zp.getV k_52_25 rfl (zlt rfl) la.1 (by first | exact lp.1 | exact zpu_r (by omega) (lp.1) | exact zpu_r (by omega) (zpu_r (by omega) (lp.1)) | exact zpu_r (by omega) (zpu_r (by omega) (zpu_r (by omega) (lp.1)))) ?_
  refine Zp.iload_n k_52_28 rfl ?_
  refine Zp.iast _ k_52_29 la.2.2.2.1 rfl (by omega) (zlt rfl) ?_
  refine Zp.aload_n k_52_30 rfl ?_
  refine Zp.dup k_52_31 rfl ?_
  refine Zp.getV k_52_32 rfl (zlt rfl) la.1 (by first | exact lp.1 | exact zpu_r (by omega) (lp.1) | exact zpu_r (by omega) (zpu_r (by omega) (lp.1)) | exact zpu_r (by omega) (zpu_r (by omega) (zpu_r (by omega) (lp.1)))) ?_
  refine Zp.iconst (nI 1) k_52_35 (by decide) ?_
  refine Zp.iaddN k_52_36 ?_
  refine Zp.putI k_52_37 rfl (zlt rfl) la.1 ?_
  refine Zp.vret k_52_40 vr_52 ?_
  exact hq _ (lp.add ha) (fun q a0 a1 a2 a3 => by rw [zpu_q _ _ _ a0, zpu_q _ _ _ a3, zpu_q _ _ _ a2, zpu_q _ _ _ a1])
theorem woV_le (S : zSo) (P : zSl) (i : Nat) : woV S P i ≤ 9 := Nat.min_le_left _ _
theorem c_worsen {i : Nat} (la : La h) (lp : Lp I h P) (lo : Lo n P) (hn : n ≤ 5) (hs : Sa g) (hp : Sp I g S) (ho : So S) (hi : i < lc P) (hq : ∀ I', Sp I' g (woS S P i) → (∀ q, q ≠ g + 2 → I' q = I q) → Q (some (.int (nI (woV S P i)))) I' L) : Zm G 53 [.ref h, .ref g, .int (nI i)] I L Q := by
  have o1 := lo.1
  obtain ⟨i1, i2, i3, i4, i5⟩ := lo.2.2 i hi
  have hj := ho.2.2.2.2.2.2 (l1 P i * 5 + l2 P i)
  refine Zm.go [some (.ref _), some (.ref _), some (.int _), none] vl_53 rfl ?_
  refine Zp.bipush (nI 9) k_53_0 (by decide) ?_
  refine Zp.aload_n k_53_2 rfl ?_
  refine Zp.aload_n k_53_3 rfl ?_
  refine Zp.getR k_53_4 rfl (zlt rfl) la.1 la.2.2.2.2.1 ?_
  refine Zp.iload_n k_53_7 rfl ?_
  refine Zp.iald _ k_53_8 la.2.1 rfl (by omega) (zlt rfl) (lp.2.2.1 _ (by omega)) ?_
  refine Zp.aload_n k_53_9 rfl ?_
  refine Zp.getR k_53_10 rfl (zlt rfl) la.1 la.2.2.2.2.2.1 ?_
  refine Zp.iload_n k_53_13 rfl ?_
  refine Zp.iald _ k_53_14 la.2.2.1 rfl (by omega) (zlt rfl) (lp.2.2.2.1 _ (by omega)) ?_
  refine Zp.callv2I v_58 k_53_15 hs.1 (Nat.le_of_ble_eq_true rfl) (Nat.le_of_ble_eq_true rfl) (c_hatredOf hs hp (by omega) (by omega) ⟨_, rfl, ?_⟩)
  refine Zp.aload_n k_53_18 rfl ?_
  refine Zp.getR k_53_19 rfl (zlt rfl) la.1 la.2.2.2.2.2.2 ?_
  refine Zp.iload_n k_53_22 rfl ?_
  refine Zp.iald _ k_53_23 la.2.2.2.1 rfl (by omega) (zlt rfl) (lp.2.2.2.2 _ (by omega)) ?_
  refine Zp.iaddN k_53_24 ?_
  refine Zp.mminN k_53_25 (Nat.le_of_ble_eq_true rfl) (by omega) (by omega) ?_
  refine Zp.istore_n [some (.ref _), some (.ref _), some (.int _), some (.int _)] k_53_28 (Nat.lt_of_lt_of_eq (zlt rfl : 3 < 4) vl_53.symm) rfl ?_
  refine Zp.aload_n k_53_29 rfl ?_
  refine Zp.aload_n k_53_30 rfl ?_
  refine Zp.getR k_53_31 rfl (zlt rfl) la.1 la.2.2.2.2.1 ?_
  refine Zp.iload_n k_53_34 rfl ?_
  refine Zp.iald _ k_53_35 la.2.1 rfl (by omega) (zlt rfl) (lp.2.2.1 _ (by omega)) ?_
  refine Zp.aload_n k_53_36 rfl ?_
  refine Zp.getR k_53_37 rfl (zlt rfl) la.1 la.2.2.2.2.2.1 ?_
  refine Zp.iload_n k_53_40 rfl ?_
  refine Zp.iald _ k_53_41 la.2.2.1 rfl (by omega) (zlt rfl) (lp.2.2.2.1 _ (by omega)) ?_
  refine Zp.iload_n k_53_42 rfl ?_
  refine Zp.callv3V v_59 k_53_43 hs.1 (Nat.le_of_ble_eq_true rfl) (Nat.le_of_ble_eq_true rfl) (c_setHatred hs (by omega) (by omega) ⟨rfl, ?_⟩)
  refine Zp.iload_n k_53_46 rfl ?_
  refine Zp.iret _ k_53_47 vr_53 rfl ?_
  exact hq _ (hp.uh rfl) (fun q hne => zpu_q _ _ _ hne)
theorem c_Slips_copyFrom (la : La h) (la2 : La h2) (hne : h + 3 < h2 ∨ h2 + 3 < h) (lp : Lp I h2 P) (lo : Lo n P) (hq : ∀ I', Lp I' h P → (∀ q, q ≠ h → q ≠ h + 1 → q ≠ h + 2 → q ≠ h + 3 → I' q = I q) → Q none I' L) : Zm G 48 [.ref h, .ref h2] I L Q := by
  have n0 : h2 ≠ h := by omega
  have o1 := lo.1
  refine Zm.go [some (.ref _), some (.ref _)] vl_48 rfl ?_
  refine Zp.aload_n k_48_0 rfl ?_
  refine Zp.aload_n k_48_1 rfl ?_
  refine Zp.getV k_48_2 rfl (zlt rfl) la2.1 (by first | exact lp.1 | (simp only [zpu_q _ _ _ n0]; exact lp.1)) ?_
  refine Zp.putI k_48_5 rfl (zlt rfl) la.1 ?_
  refine Zp.aload_n k_48_8 rfl ?_
  refine Zp.aload_n k_48_9 rfl ?_
  refine Zp.getV k_48_10 rfl (zlt rfl) la2.1 (by first | exact lp.2.1 | (simp only [zpu_q _ _ _ n0]; exact lp.2.1)) ?_
  refine Zp.putI k_48_13 rfl (zlt rfl) la.1 ?_
  refine Zp.aload_n k_48_16 rfl ?_
  refine Zp.getR k_48_17 rfl (zlt rfl) la2.1 la2.2.2.2.2.1 ?_
  refine Zp.iconst (nI 0) k_48_20 (by decide) ?_
  refine Zp.aload_n k_48_21 rfl ?_
  refine Zp.getR k_48_22 rfl (zlt rfl) la.1 la.2.2.2.2.1 ?_
  refine Zp.iconst (nI 0) k_48_25 (by decide) ?_
  refine Zp.bipush (nI 6) k_48_26 (by decide) ?_
  refine Zp.copy (sp := 0) (dp := 0) k_48_28 (Nat.le_of_ble_eq_true rfl) la2.2.1 la.2.1 rfl rfl rfl (Nat.le_of_ble_eq_true rfl) (Nat.le_of_ble_eq_true rfl) (zlt rfl) (zlt rfl) ?_
  refine Zp.aload_n k_48_31 rfl ?_
  refine Zp.getR k_48_32 rfl (zlt rfl) la2.1 la2.2.2.2.2.2.1 ?_
  refine Zp.iconst (nI 0) k_48_35 (by decide) ?_
  refine Zp.aload_n k_48_36 rfl ?_
  refine Zp.getR k_48_37 rfl (zlt rfl) la.1 la.2.2.2.2.2.1 ?_
  refine Zp.iconst (nI 0) k_48_40 (by decide) ?_
  refine Zp.bipush (nI 6) k_48_41 (by decide) ?_
  refine Zp.copy (sp := 0) (dp := 0) k_48_43 (Nat.le_of_ble_eq_true rfl) la2.2.2.1 la.2.2.1 rfl rfl rfl (Nat.le_of_ble_eq_true rfl) (Nat.le_of_ble_eq_true rfl) (zlt rfl) (zlt rfl) ?_
  refine Zp.aload_n k_48_46 rfl ?_
  refine Zp.getR k_48_47 rfl (zlt rfl) la2.1 la2.2.2.2.2.2.2 ?_
  refine Zp.iconst (nI 0) k_48_50 (by decide) ?_
  refine Zp.aload_n k_48_51 rfl ?_
  refine Zp.getR k_48_52 rfl (zlt rfl) la.1 la.2.2.2.2.2.2 ?_
  refine Zp.iconst (nI 0) k_48_55 (by decide) ?_
  refine Zp.bipush (nI 6) k_48_56 (by decide) ?_
  refine Zp.copy (sp := 0) (dp := 0) k_48_58 (Nat.le_of_ble_eq_true rfl) la2.2.2.2.1 la.2.2.2.1 rfl rfl rfl (Nat.le_of_ble_eq_true rfl) (Nat.le_of_ble_eq_true rfl) (zlt rfl) (zlt rfl) ?_
  refine Zp.vret k_48_61 vr_48 ?_
  refine hq _ ⟨?_, ?_, fun i hi => ?_, fun i hi => ?_, fun i hi => ?_⟩ (fun q a0 a1 a2 a3 => ?_)
  · rw [va_up_n _ _ (by omega), va_up_n _ _ (by omega), va_up_n _ _ (by omega), zpu_k _ _ _ (by decide), zpu_s]
  · rw [va_up_n _ _ (by omega), va_up_n _ _ (by omega), va_up_n _ _ (by omega), zpu_s]
  · rw [va_up_n _ _ (by omega), va_up_n _ _ (by omega), va_up_s, sb_cpy0 (by omega), zpu_q _ _ _ (by omega), zpu_q _ _ _ (by omega)]
    exact lp.2.2.1 i hi
  · rw [va_up_n _ _ (by omega), va_up_s, sb_cpy0 (by omega), va_up_n _ _ (by omega), zpu_q _ _ _ (by omega), zpu_q _ _ _ (by omega)]
    exact lp.2.2.2.1 i hi
  · rw [va_up_s, sb_cpy0 (by omega), va_up_n _ _ (by omega), va_up_n _ _ (by omega), zpu_q _ _ _ (by omega), zpu_q _ _ _ (by omega)]
    exact lp.2.2.2.2 i hi
  · rw [va_up_n _ _ a3, va_up_n _ _ a2, va_up_n _ _ a1, zpu_q _ _ _ a0, zpu_q _ _ _ a0]
/-! plans -/
theorem c_Plan_isFull {P : zPl} (pa : Pa h) (pp : Pp I h P) (po : Po n P) (hq : Q (some (.int (zbo (8 ≤ P.1)))) I L) : Zm G 10 [.ref h] I L Q := by
  have o1 := po.1
  refine Zm.go [some (.ref _)] vl_10 rfl ?_
  refine Zp.aload_n k_10_0 rfl ?_
  refine Zp.getV k_10_1 rfl (zlt rfl) pa.1 pp.1 ?_
  refine Zp.bipush (nI 8) k_10_4 (by decide) ?_
  refine Zp.icmp_ltN k_10_6 (by omega) (by omega) (fun c_6 => ?_) (fun c_6 => ?_)
  · refine Zp.iconst (nI 0) k_10_13 (by decide) ?_
    refine Zp.iret _ k_10_14 vr_10 rfl ?_
    exact zq0 hq (by omega)
  · refine Zp.iconst (nI 1) k_10_9 (by decide) ?_
    refine Zp.goto k_10_10 ?_
    refine Zp.iret _ k_10_14 vr_10 rfl ?_
    exact zq1 hq (by omega)
theorem c_Plan_add {P : zPl} {a b : Nat} (pa : Pa h) (pp : Pp I h P) (hc : P.1 < 8) (ha : a < 2 ^ 20) (hb : b < 2 ^ 20) (hq : ∀ I', Pp I' h (pAdd P a b) → (∀ q, q ≠ h → q ≠ h + 1 → I' q = I q) → Q none I' L) : Zm G 11 [.ref h, .int (nI a), .int (nI b)] I L Q := by
  refine Zm.go [some (.ref _), some (.int _), some (.int _)] vl_11 rfl ?_
  refine Zp.aload_n k_11_0 rfl ?_
  refine Zp.getR k_11_1 rfl (zlt rfl) pa.1 pa.2.2 ?_
  refine Zp.aload_n k_11_4 rfl ?_
  refine Zp.getV k_11_5 rfl (zlt rfl) pa.1 (by first | exact pp.1 | exact zpu_r (by omega) (pp.1)) ?_
  refine Zp.bipush (nI 10) k_11_8 (by decide) ?_
  refine Zp.iload_n k_11_10 rfl ?_
  refine Zp.iload_n k_11_11 rfl ?_
  refine Zp.mminN k_11_12 (Nat.le_of_ble_eq_true rfl) (by omega) (by omega) ?_
  refine Zp.imulN k_11_15 ?_
  refine Zp.iload_n k_11_16 rfl ?_
  refine Zp.iload_n k_11_17 rfl ?_
  refine Zp.mmaxN k_11_18 (Nat.le_of_ble_eq_true rfl) (by omega) (by omega) ?_
  refine Zp.iaddN k_11_21 ?_
  refine Zp.iast _ k_11_22 pa.2.1 rfl (by omega) (zlt rfl) ?_
  refine Zp.aload_n k_11_23 rfl ?_
  refine Zp.dup k_11_24 rfl ?_
  refine Zp.getV k_11_25 rfl (zlt rfl) pa.1 (by first | exact pp.1 | exact zpu_r (by omega) (pp.1)) ?_
  refine Zp.iconst (nI 1) k_11_28 (by decide) ?_
  refine Zp.iaddN k_11_29 ?_
  refine Zp.putI k_11_30 rfl (zlt rfl) pa.1 ?_
  refine Zp.vret k_11_33 vr_11 ?_
  refine hq _ ⟨zpu_s _ _ _ _, fun i hi => ?_⟩ (fun q a0 a1 => by rw [zpu_q _ _ _ a0, zpu_q _ _ _ a1])
  have hi' : i < P.1 + 1 := hi
  show _ = nI (va_up P.2 P.1 (10 * min a b + max a b) i)
  rw [zpu_q _ _ _ (by omega)]
  by_cases e : i = P.1
  · subst e; rw [zpu_s, va_up_s]
  · rw [zpu_k _ _ _ e, va_up_n _ _ e]; exact pp.2 i (by omega)
theorem c_Plan_copyFrom {P : zPl} (pa : Pa h) (pa2 : Pa h2) (hne : h + 1 < h2 ∨ h2 + 1 < h) (pp : Pp I h2 P) (po : Po n P) (hq : ∀ I', Pp I' h P → (∀ q, q ≠ h → q ≠ h + 1 → I' q = I q) → Q none I' L) : Zm G 9 [.ref h, .ref h2] I L Q := by
  have n0 : h2 ≠ h := by omega
  have o1 := po.1
  refine Zm.go [some (.ref _), some (.ref _)] vl_9 rfl ?_
  refine Zp.aload_n k_9_0 rfl ?_
  refine Zp.aload_n k_9_1 rfl ?_
  refine Zp.getV k_9_2 rfl (zlt rfl) pa2.1 pp.1 ?_
  refine Zp.putI k_9_5 rfl (zlt rfl) pa.1 ?_
  refine Zp.aload_n k_9_8 rfl ?_
  refine Zp.getR k_9_9 rfl (zlt rfl) pa2.1 pa2.2.2 ?_
  refine Zp.iconst (nI 0) k_9_12 (by decide) ?_
  refine Zp.aload_n k_9_13 rfl ?_
  refine Zp.getR k_9_14 rfl (zlt rfl) pa.1 pa.2.2 ?_
  refine Zp.iconst (nI 0) k_9_17 (by decide) ?_
  refine Zp.bipush (nI 8) k_9_18 (by decide) ?_
  refine Zp.copy (sp := 0) (dp := 0) k_9_20 (Nat.le_of_ble_eq_true rfl) pa2.2.1 pa.2.1 rfl rfl rfl (Nat.le_of_ble_eq_true rfl) (Nat.le_of_ble_eq_true rfl) (zlt rfl) (zlt rfl) ?_
  refine Zp.vret k_9_23 vr_9 ?_
  refine hq _ ⟨?_, fun i hi => ?_⟩ (fun q a0 a1 => ?_)
  · rw [va_up_n _ _ (by omega), zpu_s]
  · rw [va_up_s, sb_cpy0 (by omega), zpu_q _ _ _ (by omega)]
    exact pp.2 i hi
  · rw [va_up_n _ _ a1, zpu_q _ _ _ a0]
theorem c_stirAll {P : zPl} (pa : Pa h) (pp : Pp I h P) (po : Po (sn S) P) (hs : Sa g) (hp : Sp I g S) (ho : So S) (hst : sstep S < 2 ^ 29) (hg : h ≠ g ∧ h + 1 ≠ g ∧ h ≠ g + 2 ∧ h + 1 ≠ g + 2) (hq : ∀ I', Sp I' g (plG S P.2 P.1) → (∀ q, q ≠ g → q ≠ g + 2 → I' q = I q) → Q (some (.int (plF S P.2 P.1))) I' L) : Zm G 12 [.ref h, .ref g] I L Q := by
  obtain ⟨po1, po2⟩ := id po
  have o1 := ho.1
  have loop : ∀ k i (I1 : zI), i + k = P.1 → Sp I1 g (plG S P.2 i) → plF S P.2 i = -4 → (∀ q, q ≠ g → q ≠ g + 2 → I1 q = I q) → Zp G 12 2 [some (.ref h), some (.ref g), some (.int (nI i))] [] I1 L Q := by
    intro k
    induction k with
    | zero =>
      intro i I1 hi hp1 hf hfr
      have e : i = P.1 := by omega
      subst e
      have pp1 : Pp I1 h P := pp.fr (hfr _ hg.1 hg.2.2.1) (hfr _ hg.2.1 hg.2.2.2)
      refine Zp.iload_n k_12_2 rfl ?_
      refine Zp.aload_n k_12_3 rfl ?_
      refine Zp.getV k_12_4 rfl (zlt rfl) pa.1 pp1.1 ?_
      refine Zp.icmp_geN k_12_7 (by omega) (by omega) (fun c_7 => ?_) (fun c_7 => absurd (by omega) c_7)
      refine Zp.bipush (-4) k_12_47 (by decide) ?_
      refine Zp.iret _ k_12_49 vr_12 rfl ?_
      exact zqe (hq I1 hp1 hfr) hf.symm
    | succ k ih =>
      intro i I1 hi hp1 hf hfr
      have pp1 : Pp I1 h P := pp.fr (hfr _ hg.1 hg.2.2.1) (hfr _ hg.2.1 hg.2.2.2)
      obtain ⟨q1, q2, q3, q4, q5⟩ := plG_n S P.2 i
      obtain ⟨b1, b2, b3⟩ := po2 i (by omega)
      have ho1 := plG_o ho P.2 i
      refine Zp.iload_n k_12_2 rfl ?_
      refine Zp.aload_n k_12_3 rfl ?_
      refine Zp.getV k_12_4 rfl (zlt rfl) pa.1 pp1.1 ?_
      refine Zp.icmp_geN k_12_7 (by omega) (by omega) (fun c_7 => absurd c_7 (by omega)) (fun c_7 => ?_)
      refine Zp.aload_n k_12_10 rfl ?_
      refine Zp.callv0I v_62 k_12_11 hs.1 (Nat.le_of_ble_eq_true rfl) (Nat.le_of_ble_eq_true rfl) (c_canBeStirred hs hp1 ho1 (by omega) ⟨_, rfl, ?_⟩)
      refine Zp.if_neB k_12_14 (fun c_14 => ?_) (fun c_14 => ?_)
      · refine Zp.aload_n k_12_19 rfl ?_
        refine Zp.aload_n k_12_20 rfl ?_
        refine Zp.getR k_12_21 rfl (zlt rfl) pa.1 pa.2.2 ?_
        refine Zp.iload_n k_12_24 rfl ?_
        refine Zp.iald _ k_12_25 pa.2.1 rfl (by omega) (zlt rfl) (pp1.2 _ (by omega)) ?_
        refine Zp.bipush (nI 10) k_12_26 (by decide) ?_
        refine Zp.idivN k_12_28 (by omega) (by omega) (by omega) ?_
        refine Zp.aload_n k_12_29 rfl ?_
        refine Zp.getR k_12_30 rfl (zlt rfl) pa.1 pa.2.2 ?_
        refine Zp.iload_n k_12_33 rfl ?_
        refine Zp.iald _ k_12_34 pa.2.1 rfl (by omega) (zlt rfl) (pp1.2 _ (by omega)) ?_
        refine Zp.bipush (nI 10) k_12_35 (by decide) ?_
        refine Zp.iremN k_12_37 (by omega) (by omega) (by omega) ?_
        refine Zp.callv2V v_63 k_12_38 hs.1 (Nat.le_of_ble_eq_true rfl) (Nat.le_of_ble_eq_true rfl) (c_stirOnce hs hp1 ho1 (by omega) (by omega) (by omega) (fun I2 hp2 hf2 => ⟨rfl, ?_⟩))
        refine Zp.iinc (nI (_ + 1)) [some (.ref _), some (.ref _), some (.int _)] k_12_41 rfl (nI_1 _) (Nat.lt_of_lt_of_eq (zlt rfl : 2 < 3) vl_12.symm) rfl ?_
        refine Zp.goto k_12_44 ?_
        exact ih (i + 1) I2 (by omega) (by unfold plG; rw [if_pos c_14]; exact hp2) (plF_go c_14 hf) (fun q a0 a1 => (hf2 q a0 a1).trans (hfr q a0 a1))
      · refine Zp.iload_n k_12_17 rfl ?_
        refine Zp.iret _ k_12_18 vr_12 rfl ?_
        have e1 := plF_stop (by omega) c_14 hf k
        have e2 := plG_stop c_14 (k + 1)
        rw [hi] at e1 e2
        exact zqe (hq I1 (by rw [e2]; exact hp1) hfr) e1.symm
  refine Zm.go [some (.ref _), some (.ref _), none] vl_12 rfl ?_
  refine Zp.iconst (nI 0) k_12_0 (by decide) ?_
  refine Zp.istore_n [some (.ref _), some (.ref _), some (.int _)] k_12_1 (Nat.lt_of_lt_of_eq (zlt rfl : 2 < 3) vl_12.symm) rfl ?_
  exact loop P.1 0 I (by omega) hp rfl (fun _ _ _ => rfl)
/-! what was seen -/
theorem c_Seen_isFull {P : zSe} (ea : Ea h) (ep : Ep I h P) (eo : Eo P) (hq : Q (some (.int (zbo (6 ≤ P.1)))) I L) : Zm G 38 [.ref h] I L Q := by
  have o1 := eo.1
  refine Zm.go [some (.ref _)] vl_38 rfl ?_
  refine Zp.aload_n k_38_0 rfl ?_
  refine Zp.getV k_38_1 rfl (zlt rfl) ea.1 ep.1 ?_
  refine Zp.bipush (nI 6) k_38_4 (by decide) ?_
  refine Zp.icmp_ltN k_38_6 (by omega) (by omega) (fun c_6 => ?_) (fun c_6 => ?_)
  · refine Zp.iconst (nI 0) k_38_13 (by decide) ?_
    refine Zp.iret _ k_38_14 vr_38 rfl ?_
    exact zq0 hq (by omega)
  · refine Zp.iconst (nI 1) k_38_9 (by decide) ?_
    refine Zp.goto k_38_10 ?_
    refine Zp.iret _ k_38_14 vr_38 rfl ?_
    exact zq1 hq (by omega)
theorem c_Seen_add {P : zSe} {a b : Nat} (ea : Ea h) (ep : Ep I h P) (hc : P.1 < 6) (hq : ∀ I', Ep I' h (eAdd P a b) → (∀ q, q ≠ h → q ≠ h + 1 → q ≠ h + 2 → I' q = I q) → Q none I' L) : Zm G 39 [.ref h, .int (nI a), .int (nI b)] I L Q := by
  refine Zm.go [some (.ref _), some (.int _), some (.int _)] vl_39 rfl ?_
  refine Zp.aload_n k_39_0 rfl ?_
  refine Zp.getR k_39_1 rfl (zlt rfl) ea.1 ea.2.2.2.1 ?_
  refine Zp.aload_n k_39_4 rfl ?_
  refine Zp.getV k_39_5 rfl (zlt rfl) ea.1 (by first | exact ep.1 | exact zpu_r (by omega) (ep.1) | exact zpu_r (by omega) (zpu_r (by omega) (ep.1))) ?_
  refine Zp.iload_n k_39_8 rfl ?_
  refine Zp.iast _ k_39_9 ea.2.1 rfl (by omega) (zlt rfl) ?_
  refine Zp.aload_n k_39_10 rfl ?_
  refine Zp.getR k_39_11 rfl (zlt rfl) ea.1 ea.2.2.2.2 ?_
  refine Zp.aload_n k_39_14 rfl ?_
  refine Zp.getV k_39_15 rfl (zlt rfl) ea.1 (by first | exact ep.1 | exact zpu_r (by omega) (ep.1) | exact zpu_r (by omega) (zpu_r (by omega) (ep.1))) ?_
  refine Zp.iload_n k_39_18 rfl ?_
  refine Zp.iast _ k_39_19 ea.2.2.1 rfl (by omega) (zlt rfl) ?_
  refine Zp.aload_n k_39_20 rfl ?_
  refine Zp.dup k_39_21 rfl ?_
  refine Zp.getV k_39_22 rfl (zlt rfl) ea.1 (by first | exact ep.1 | exact zpu_r (by omega) (ep.1) | exact zpu_r (by omega) (zpu_r (by omega) (ep.1))) ?_
  refine Zp.iconst (nI 1) k_39_25 (by decide) ?_
  refine Zp.iaddN k_39_26 ?_
  refine Zp.putI k_39_27 rfl (zlt rfl) ea.1 ?_
  refine Zp.vret k_39_30 vr_39 ?_
  refine hq _ ⟨zpu_s _ _ _ _, fun i hi => ?_, fun i hi => ?_⟩ (fun q a0 a1 a2 => by rw [zpu_q _ _ _ a0, zpu_q _ _ _ a2, zpu_q _ _ _ a1])
  · have hi' : i < P.1 + 1 := hi
    show _ = nI (va_up P.2.1 P.1 a i)
    rw [zpu_q _ _ _ (by omega), zpu_q _ _ _ (by omega)]
    by_cases e : i = P.1
    · subst e; rw [zpu_s, va_up_s]
    · rw [zpu_k _ _ _ e, va_up_n _ _ e]; exact ep.2.1 i (by omega)
  · have hi' : i < P.1 + 1 := hi
    show _ = nI (va_up P.2.2 P.1 b i)
    rw [zpu_q _ _ _ (by omega)]
    by_cases e : i = P.1
    · subst e; rw [zpu_s, va_up_s]
    · rw [zpu_k _ _ _ e, va_up_n _ _ e, zpu_q _ _ _ (by omega)]; exact ep.2.2 i (by omega)
theorem c_Seen_copyFrom {P : zSe} (ea : Ea h) (ea2 : Ea h2) (hne : h + 2 < h2 ∨ h2 + 2 < h) (ep : Ep I h2 P) (eo : Eo P) (hq : ∀ I', Ep I' h P → (∀ q, q ≠ h → q ≠ h + 1 → q ≠ h + 2 → I' q = I q) → Q none I' L) : Zm G 37 [.ref h, .ref h2] I L Q := by
  have n0 : h2 ≠ h := by omega
  have o1 := eo.1
  refine Zm.go [some (.ref _), some (.ref _)] vl_37 rfl ?_
  refine Zp.aload_n k_37_0 rfl ?_
  refine Zp.aload_n k_37_1 rfl ?_
  refine Zp.getV k_37_2 rfl (zlt rfl) ea2.1 ep.1 ?_
  refine Zp.putI k_37_5 rfl (zlt rfl) ea.1 ?_
  refine Zp.aload_n k_37_8 rfl ?_
  refine Zp.getR k_37_9 rfl (zlt rfl) ea2.1 ea2.2.2.2.1 ?_
  refine Zp.iconst (nI 0) k_37_12 (by decide) ?_
  refine Zp.aload_n k_37_13 rfl ?_
  refine Zp.getR k_37_14 rfl (zlt rfl) ea.1 ea.2.2.2.1 ?_
  refine Zp.iconst (nI 0) k_37_17 (by decide) ?_
  refine Zp.bipush (nI 6) k_37_18 (by decide) ?_
  refine Zp.copy (sp := 0) (dp := 0) k_37_20 (Nat.le_of_ble_eq_true rfl) ea2.2.1 ea.2.1 rfl rfl rfl (Nat.le_of_ble_eq_true rfl) (Nat.le_of_ble_eq_true rfl) (zlt rfl) (zlt rfl) ?_
  refine Zp.aload_n k_37_23 rfl ?_
  refine Zp.getR k_37_24 rfl (zlt rfl) ea2.1 ea2.2.2.2.2 ?_
  refine Zp.iconst (nI 0) k_37_27 (by decide) ?_
  refine Zp.aload_n k_37_28 rfl ?_
  refine Zp.getR k_37_29 rfl (zlt rfl) ea.1 ea.2.2.2.2 ?_
  refine Zp.iconst (nI 0) k_37_32 (by decide) ?_
  refine Zp.bipush (nI 6) k_37_33 (by decide) ?_
  refine Zp.copy (sp := 0) (dp := 0) k_37_35 (Nat.le_of_ble_eq_true rfl) ea2.2.2.1 ea.2.2.1 rfl rfl rfl (Nat.le_of_ble_eq_true rfl) (Nat.le_of_ble_eq_true rfl) (zlt rfl) (zlt rfl) ?_
  refine Zp.vret k_37_38 vr_37 ?_
  refine hq _ ⟨?_, fun i hi => ?_, fun i hi => ?_⟩ (fun q a0 a1 a2 => ?_)
  · rw [va_up_n _ _ (by omega), va_up_n _ _ (by omega), zpu_s]
  · rw [va_up_n _ _ (by omega), va_up_s, sb_cpy0 (by omega), zpu_q _ _ _ (by omega)]
    exact ep.2.1 i hi
  · rw [va_up_s, sb_cpy0 (by omega), va_up_n _ _ (by omega), zpu_q _ _ _ (by omega)]
    exact ep.2.2 i hi
  · rw [va_up_n _ _ a2, va_up_n _ _ a1, zpu_q _ _ _ a0]
theorem c_allows {P : zSe} {s v : Nat} (ea : Ea h) (ep : Ep I h P) (eo : Eo P) (hs : s < 2 ^ 20) (hv : v < 2 ^ 20) (hq : Q (some (.int (zbo (∀ i, i < P.1 → P.2.1 i = s → P.2.2 i = v)))) I L) : Zm G 40 [.ref h, .int (nI s), .int (nI v)] I L Q := by
  obtain ⟨o1, o2⟩ := id eo
  have loop : ∀ k i, i + k = P.1 → (∀ j, j < i → P.2.1 j = s → P.2.2 j = v) → Zp G 40 2 [some (.ref h), some (.int (nI s)), some (.int (nI v)), some (.int (nI i))] [] I L Q := by
    intro k
    induction k with
    | zero =>
      intro i hi hb
      have e : i = P.1 := by omega
      subst e
      refine Zp.iload_n k_40_2 rfl ?_
      refine Zp.aload_n k_40_3 rfl ?_
      refine Zp.getV k_40_4 rfl (zlt rfl) ea.1 ep.1 ?_
      refine Zp.icmp_geN k_40_7 (by omega) (by omega) (fun c_7 => ?_) (fun c_7 => absurd (by omega) c_7)
      refine Zp.iconst (nI 1) k_40_38 (by decide) ?_
      refine Zp.iret _ k_40_39 vr_40 rfl ?_
      exact zq1 hq hb
    | succ k ih =>
      intro i hi hb
      obtain ⟨b1, b2⟩ := o2 i (by omega)
      refine Zp.iload_n k_40_2 rfl ?_
      refine Zp.aload_n k_40_3 rfl ?_
      refine Zp.getV k_40_4 rfl (zlt rfl) ea.1 ep.1 ?_
      refine Zp.icmp_geN k_40_7 (by omega) (by omega) (fun c_7 => absurd c_7 (by omega)) (fun c_7 => ?_)
      refine Zp.aload_n k_40_10 rfl ?_
      refine Zp.getR k_40_11 rfl (zlt rfl) ea.1 ea.2.2.2.1 ?_
      refine Zp.iload_n k_40_14 rfl ?_
      refine Zp.iald _ k_40_15 ea.2.1 rfl (by omega) (zlt rfl) (ep.2.1 _ (by omega)) ?_
      refine Zp.iload_n k_40_16 rfl ?_
      refine Zp.icmp_neN k_40_17 (by omega) (by omega) (fun c_17 => ?_) (fun c_17 => ?_)
      · refine Zp.iinc (nI (_ + 1)) [some (.ref _), some (.int _), some (.int _), some (.int _)] k_40_32 rfl (nI_1 _) (Nat.lt_of_lt_of_eq (zlt rfl : 3 < 4) vl_40.symm) rfl ?_
        refine Zp.goto k_40_35 ?_
        refine ih (i + 1) (by omega) (fun j hj he => ?_)
        rcases (by omega : j < i ∨ j = i) with e | e
        · exact hb j e he
        · subst e; first | exact absurd he c_17 | exact c_27
      · refine Zp.aload_n k_40_20 rfl ?_
        refine Zp.getR k_40_21 rfl (zlt rfl) ea.1 ea.2.2.2.2 ?_
        refine Zp.iload_n k_40_24 rfl ?_
        refine Zp.iald _ k_40_25 ea.2.2.1 rfl (by omega) (zlt rfl) (ep.2.2 _ (by omega)) ?_
        refine Zp.iload_n k_40_26 rfl ?_
        refine Zp.icmp_eqN k_40_27 (by omega) (by omega) (fun c_27 => ?_) (fun c_27 => ?_)
        · refine Zp.iinc (nI (_ + 1)) [some (.ref _), some (.int _), some (.int _), some (.int _)] k_40_32 rfl (nI_1 _) (Nat.lt_of_lt_of_eq (zlt rfl : 3 < 4) vl_40.symm) rfl ?_
          refine Zp.goto k_40_35 ?_
          refine ih (i + 1) (by omega) (fun j hj he => ?_)
          rcases (by omega : j < i ∨ j = i) with e | e
          · exact hb j e he
          · subst e; first | exact absurd he c_17 | exact c_27
        · refine Zp.iconst (nI 0) k_40_30 (by decide) ?_
          refine Zp.iret _ k_40_31 vr_40 rfl ?_
          exact zq0 hq (fun z => c_27 (z i (by omega) c_17))
  refine Zm.go [some (.ref _), some (.int _), some (.int _), none] vl_40 rfl ?_
  refine Zp.iconst (nI 0) k_40_0 (by decide) ?_
  refine Zp.istore_n [some (.ref _), some (.int _), some (.int _), some (.int _)] k_40_1 (Nat.lt_of_lt_of_eq (zlt rfl : 3 < 4) vl_40.symm) rfl ?_
  exact loop P.1 0 (by omega) (fun j hj => absurd hj (Nat.not_lt_zero j))
end PARTS
