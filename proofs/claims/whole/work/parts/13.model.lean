/-! THE REFERENCE'S OWN WAYS -/
theorem lN_z {n : Nat} (h : n < 2 ^ 63) : (lN n).toInt = n := lg_ofNat_toInt h
theorem zbo_c {p q : Prop} [Decidable p] [Decidable q] (h : p ↔ q) : zbo p = zbo q := by
  by_cases c : p
  · rw [zbo_t c, zbo_t (h.mp c)]
  · rw [zbo_f c, zbo_f (fun z => c (h.mpr z))]
theorem zi2l (x : Int32) : x.toInt64.toInt = x.toInt := Jvm.Kit.i64_of_i32 x
theorem zi2n {n : Nat} (h : n < 2 ^ 31) : (nI n).toInt64.toInt = n := by rw [zi2l, nI_toInt h]
theorem z_nI {x : Int32} (h0 : 0 ≤ x.toInt) : x = nI x.toInt.toNat := by
  obtain ⟨j, _, hj, he⟩ := zin_nI (n := 2 ^ 31) h0 (by have := fb_rngZ x; omega)
  rw [he]
  exact hj
theorem zne4 {x : Nat} (h : x < 2 ^ 30) : ¬ nI x = -4 := fun z => by
  have := congrArg Int32.toInt z
  rw [nI_toInt (by omega), show (-4 : Int32).toInt = -4 by decide] at this
  omega
theorem z4 {x : Int32} (h : x.toInt = -4) : x = -4 := Int32.toInt_inj.mp (by rw [h]; decide)
/-- the soup in a row of the reference's numbers -/
def Mp (f : Nat → Int32) (S : zSo) : Prop := (∀ a, a < sn S → f a = nI (skd S a)) ∧ (∀ j, j < 25 → f (5 + j) = nI (sht S j)) ∧ f 30 = nI (sneed S) ∧ f 31 = nI (snoon S) ∧ f 32 = nI (sstep S) ∧ f 33 = nI (sdone S) ∧ f 34 = nI (sset S)
theorem Mp.kk {f : Nat → Int32} {S : zSo} {a : Nat} (h : Mp f S) (ha : a < sn S) : f (0 + a) = nI (skd S a) := by rw [Nat.zero_add]; exact h.1 a ha
theorem Mp.hh {f : Nat → Int32} {S : zSo} {a b : Nat} (h : Mp f S) (ha : a < 5) (hb : b < 5) : f (5 + 5 * a + b) = nI (sht S (a * 5 + b)) := by
  rw [show 5 + 5 * a + b = 5 + (a * 5 + b) by omega]
  exact h.2.1 _ (by omega)
theorem Mp.fr {f g : Nat → Int32} {S : zSo} (h : Mp f S) (hn : sn S ≤ 5) (e : ∀ j, j < 35 → g j = f j) : Mp g S := by
  obtain ⟨h1, h2, h3, h4, h5, h6, h7⟩ := h
  exact ⟨fun a ha => by rw [e a (by omega)]; exact h1 a ha, fun j hj => by rw [e _ (by omega)]; exact h2 j hj, by rw [e _ (by omega)]; exact h3, by rw [e _ (by omega)]; exact h4, by rw [e _ (by omega)]; exact h5, by rw [e _ (by omega)]; exact h6, by rw [e _ (by omega)]; exact h7⟩
theorem Mp.uh {I : zI} {r a b v : Nat} {S : zSo} {x : Int32} (h : Mp (I r) S) (hn : sn S ≤ 5) (hx : x = nI v) (ha : a < 5) (hb : b < 5) : Mp (zpu I r (5 + 5 * a + b) x r) (sUh S (a * 5 + b) v) := by
  obtain ⟨h1, h2, h3, h4, h5, h6, h7⟩ := h
  refine ⟨fun c hc => ?_, fun j hj => ?_, by rw [zpu_k _ _ _ (by omega)]; exact h3, by rw [zpu_k _ _ _ (by omega)]; exact h4, by rw [zpu_k _ _ _ (by omega)]; exact h5, by rw [zpu_k _ _ _ (by omega)]; exact h6, by rw [zpu_k _ _ _ (by omega)]; exact h7⟩
  · have hc' : c < sn S := hc
    rw [zpu_k _ _ _ (by omega)]
    exact h1 c hc
  · show _ = nI (va_up (sht S) (a * 5 + b) v j)
    by_cases e : j = a * 5 + b
    · subst e
      rw [va_up_s, show 5 + (a * 5 + b) = 5 + 5 * a + b by omega, zpu_s]
      exact hx
    · rw [va_up_n _ _ e, zpu_k _ _ _ (by omega)]
      exact h2 j hj
theorem Mp.ukd {I : zI} {r a v : Nat} {S : zSo} {x : Int32} (h : Mp (I r) S) (hn : sn S ≤ 5) (hx : x = nI v) (ha : a < 5) : Mp (zpu I r a x r) (sn S, sneed S, snoon S, sstep S, sdone S, sset S, va_up (skd S) a v, sht S) := by
  obtain ⟨h1, h2, h3, h4, h5, h6, h7⟩ := h
  refine ⟨fun c hc => ?_, fun j hj => by rw [zpu_k _ _ _ (by omega)]; exact h2 j hj, by rw [zpu_k _ _ _ (by omega)]; exact h3, by rw [zpu_k _ _ _ (by omega)]; exact h4, by rw [zpu_k _ _ _ (by omega)]; exact h5, by rw [zpu_k _ _ _ (by omega)]; exact h6, by rw [zpu_k _ _ _ (by omega)]; exact h7⟩
  have hc' : c < sn S := hc
  show _ = nI (va_up (skd S) a v c)
  by_cases e : c = a
  · subst e
    rw [va_up_s, zpu_s]
    exact hx
  · rw [va_up_n _ _ e, zpu_k _ _ _ e]
    exact h1 c hc
theorem Mp.u30 {I : zI} {r v : Nat} {S : zSo} (h : Mp (I r) S) (hn : sn S ≤ 5) : Mp (zpu I r 30 (nI v) r) (sn S, v, snoon S, sstep S, sdone S, sset S, skd S, sht S) := by
  obtain ⟨h1, h2, h3, h4, h5, h6, h7⟩ := h
  exact ⟨fun c hc => by have hc' : c < sn S := hc; rw [zpu_k _ _ _ (by omega)]; exact h1 c hc, fun j hj => by rw [zpu_k _ _ _ (by omega)]; exact h2 j hj, zpu_s _ _ _ _, by rw [zpu_k _ _ _ (by omega)]; exact h4, by rw [zpu_k _ _ _ (by omega)]; exact h5, by rw [zpu_k _ _ _ (by omega)]; exact h6, by rw [zpu_k _ _ _ (by omega)]; exact h7⟩
theorem Mp.u31 {I : zI} {r v : Nat} {S : zSo} (h : Mp (I r) S) (hn : sn S ≤ 5) : Mp (zpu I r 31 (nI v) r) (sn S, sneed S, v, sstep S, sdone S, sset S, skd S, sht S) := by
  obtain ⟨h1, h2, h3, h4, h5, h6, h7⟩ := h
  exact ⟨fun c hc => by have hc' : c < sn S := hc; rw [zpu_k _ _ _ (by omega)]; exact h1 c hc, fun j hj => by rw [zpu_k _ _ _ (by omega)]; exact h2 j hj, by rw [zpu_k _ _ _ (by omega)]; exact h3, zpu_s _ _ _ _, by rw [zpu_k _ _ _ (by omega)]; exact h5, by rw [zpu_k _ _ _ (by omega)]; exact h6, by rw [zpu_k _ _ _ (by omega)]; exact h7⟩
theorem Mp.ustep {I : zI} {r : Nat} {S : zSo} (h : Mp (I r) S) (hn : sn S ≤ 5) : Mp (zpu I r 32 (nI (sstep S + 1)) r) (sUstep S) := by
  obtain ⟨h1, h2, h3, h4, h5, h6, h7⟩ := h
  exact ⟨fun c hc => by have hc' : c < sn S := hc; rw [zpu_k _ _ _ (by omega)]; exact h1 c hc, fun j hj => by rw [zpu_k _ _ _ (by omega)]; exact h2 j hj, by rw [zpu_k _ _ _ (by omega)]; exact h3, by rw [zpu_k _ _ _ (by omega)]; exact h4, zpu_s _ _ _ _, by rw [zpu_k _ _ _ (by omega)]; exact h6, by rw [zpu_k _ _ _ (by omega)]; exact h7⟩
theorem Mp.udone {I : zI} {r v : Nat} {S : zSo} (h : Mp (I r) S) (hn : sn S ≤ 5) : Mp (zpu I r 33 (nI v) r) (sUdone S v) := by
  obtain ⟨h1, h2, h3, h4, h5, h6, h7⟩ := h
  exact ⟨fun c hc => by have hc' : c < sn S := hc; rw [zpu_k _ _ _ (by omega)]; exact h1 c hc, fun j hj => by rw [zpu_k _ _ _ (by omega)]; exact h2 j hj, by rw [zpu_k _ _ _ (by omega)]; exact h3, by rw [zpu_k _ _ _ (by omega)]; exact h4, by rw [zpu_k _ _ _ (by omega)]; exact h5, zpu_s _ _ _ _, by rw [zpu_k _ _ _ (by omega)]; exact h7⟩
theorem Mp.uset {I : zI} {r : Nat} {S : zSo} (h : Mp (I r) S) (hn : sn S ≤ 5) : Mp (zpu I r 34 (nI 1) r) (sUset S) := by
  obtain ⟨h1, h2, h3, h4, h5, h6, h7⟩ := h
  exact ⟨fun c hc => by have hc' : c < sn S := hc; rw [zpu_k _ _ _ (by omega)]; exact h1 c hc, fun j hj => by rw [zpu_k _ _ _ (by omega)]; exact h2 j hj, by rw [zpu_k _ _ _ (by omega)]; exact h3, by rw [zpu_k _ _ _ (by omega)]; exact h4, by rw [zpu_k _ _ _ (by omega)]; exact h5, by rw [zpu_k _ _ _ (by omega)]; exact h6, zpu_s _ _ _ _⟩
/-- only the soup of the reference's working row has changed -/
def FrA (I I' : zI) : Prop := (∀ q, q ≠ 95 → I' q = I q) ∧ ∀ j, 35 ≤ j → I' 95 j = I 95 j
theorem FrA.rf (I : zI) : FrA I I := ⟨fun _ _ => rfl, fun _ _ => rfl⟩
theorem FrA.tr {I J K : zI} (h : FrA I J) (k : FrA J K) : FrA I K := ⟨fun q hq => (k.1 q hq).trans (h.1 q hq), fun j hj => (k.2 j hj).trans (h.2 j hj)⟩
theorem FrA.pu (I : zI) {j : Nat} (x : Int32) (h : j < 35) : FrA I (zpu I 95 j x) := ⟨fun _ hq => zpu_q _ _ _ hq, fun k hk => zpu_k _ _ _ (by omega)⟩
section MODEL
variable {G : zG} {I : zI} {L : zJ} {Q : zP} {S : zSo} {n : Nat}
theorem c_in {x y z : Int64} {u v w : Int} (hx : x.toInt = u) (hy : y.toInt = v) (hz : z.toInt = w) (hq : Q (some (.int (zbo (v ≤ u ∧ u ≤ w)))) I L) : Zm G 131 [.long x, .long y, .long z] I L Q := by
  subst hx hy hz
  have e1 := (lg_cmp_lt x y).trans Int64.lt_iff_toInt_lt
  have e2 := (lg_cmp_gt x z).trans Int64.lt_iff_toInt_lt
  refine Zm.go [some (.long _), none, some (.long _), none, some (.long _), none] vl_131 rfl ?_
  refine Zp.lload_n k_131_0 rfl ?_
  refine Zp.lload_n k_131_1 rfl ?_
  refine Zp.lcmp k_131_2 ?_
  refine Zp.if_lt k_131_3 (fun c_3 => ?_) (fun c_3 => ?_)
  · refine Zp.iconst (nI 0) k_131_17 (by decide) ?_
    refine Zp.iret _ k_131_18 vr_131 rfl ?_
    first | exact zq1 hq (by rw [e1] at c_3; rw [e2] at c_10; omega) | exact zq0 hq (by first | (rw [e1] at c_3; rw [e2] at c_10; omega) | (rw [e1] at c_3; omega))
  · refine Zp.lload_n k_131_6 rfl ?_
    refine Zp.lload k_131_7 rfl ?_
    refine Zp.lcmp k_131_9 ?_
    refine Zp.if_gt k_131_10 (fun c_10 => ?_) (fun c_10 => ?_)
    · refine Zp.iconst (nI 0) k_131_17 (by decide) ?_
      refine Zp.iret _ k_131_18 vr_131 rfl ?_
      first | exact zq1 hq (by rw [e1] at c_3; rw [e2] at c_10; omega) | exact zq0 hq (by first | (rw [e1] at c_3; rw [e2] at c_10; omega) | (rw [e1] at c_3; omega))
    · refine Zp.iconst (nI 1) k_131_13 (by decide) ?_
      refine Zp.goto k_131_14 ?_
      refine Zp.iret _ k_131_18 vr_131 rfl ?_
      first | exact zq1 hq (by rw [e1] at c_3; rw [e2] at c_10; omega) | exact zq0 hq (by first | (rw [e1] at c_3; rw [e2] at c_10; omega) | (rw [e1] at c_3; omega))
theorem c_flagM {p : Prop} [Decidable p] (hq : Q (some (.int (zbo p))) I L) : Zm G 132 [.int (zbo p)] I L Q := by
  refine Zm.go [some (.int _)] vl_132 rfl ?_
  refine Zp.iload_n k_132_0 rfl ?_
  refine Zp.if_eqB k_132_1 (fun c_1 => ?_) (fun c_1 => ?_)
  · refine Zp.iconst (nI 0) k_132_8 (by decide) ?_
    refine Zp.iret _ k_132_9 vr_132 rfl ?_
    first | exact zq1 hq c_1 | exact zq0 hq c_1
  · refine Zp.iconst (nI 1) k_132_4 (by decide) ?_
    refine Zp.goto k_132_5 ?_
    refine Zp.iret _ k_132_9 vr_132 rfl ?_
    first | exact zq1 hq c_1 | exact zq0 hq c_1
theorem c_pairOfM {a b : Nat} (ha : a < 2 ^ 20) (hb : b < 2 ^ 20) (hq : Q (some (.int (nI (10 * min a b + max a b)))) I L) : Zm G 149 [.int (nI a), .int (nI b)] I L Q := by
  refine Zm.go [some (.int _), some (.int _)] vl_149 rfl ?_
  refine Zp.iload_n k_149_0 rfl ?_
  refine Zp.iload_n k_149_1 rfl ?_
  refine Zp.icmp_geN k_149_2 (by omega) (by omega) (fun c_2 => ?_) (fun c_2 => ?_)
  · refine Zp.bipush (nI 10) k_149_14 (by decide) ?_
    refine Zp.iload_n k_149_16 rfl ?_
    refine Zp.imulN k_149_17 ?_
    refine Zp.iload_n k_149_18 rfl ?_
    refine Zp.iaddN k_149_19 ?_
    refine Zp.iret _ k_149_20 vr_149 rfl ?_
    exact zqN hq (by omega)
  · refine Zp.bipush (nI 10) k_149_5 (by decide) ?_
    refine Zp.iload_n k_149_7 rfl ?_
    refine Zp.imulN k_149_8 ?_
    refine Zp.iload_n k_149_9 rfl ?_
    refine Zp.iaddN k_149_10 ?_
    refine Zp.goto k_149_11 ?_
    refine Zp.iret _ k_149_20 vr_149 rfl ?_
    exact zqN hq (by omega)
theorem zm1 {n : Nat} (h : n < 2 ^ 31) : (nI n - nI 1).toInt64.toInt = (n : Int) - 1 := by
  rw [zi2l, Jvm.Kit.i32_sub (by rw [nI_toInt h, nI_toInt (by decide)]; omega) (by rw [nI_toInt h, nI_toInt (by decide)]; omega), nI_toInt h, nI_toInt (by decide)]
  rfl
theorem c_isHelperM {x : Int32} (h3 : I 93 3 = nI n) (hn : n < 2 ^ 31) (hq : Q (some (.int (zbo (0 ≤ x.toInt ∧ x.toInt < (n : Int))))) I L) : Zm G 155 [.ref 93, .int x] I L Q := by
  refine Zm.go [some (.ref _), some (.int _)] vl_155 rfl ?_
  refine Zp.iload_n k_155_0 rfl ?_
  refine Zp.i2l k_155_1 ?_
  refine Zp.lconst (lN 0) k_155_2 (by decide) ?_
  refine Zp.aload_n k_155_3 rfl ?_
  refine Zp.getV k_155_4 rfl (zlt rfl) m_93 h3 ?_
  refine Zp.iconst (nI 1) k_155_7 (by decide) ?_
  refine Zp.isub k_155_8 ?_
  refine Zp.i2l k_155_9 ?_
  refine Zp.calls3I vs_131 k_155_10 (Nat.le_of_ble_eq_true rfl) (Nat.le_of_ble_eq_true rfl) (c_in (zi2l _) (lN_z (by decide)) (zm1 hn) ⟨_, rfl, ?_⟩)
  refine Zp.iret _ k_155_13 vr_155 (zbo_narrow _) ?_
  exact zqe hq (zbo_c (by omega))
theorem c_isSlipM {x : Int32} (h3 : I 93 4 = nI n) (hn : n < 2 ^ 31) (hq : Q (some (.int (zbo (0 ≤ x.toInt ∧ x.toInt < (n : Int))))) I L) : Zm G 157 [.ref 93, .int x] I L Q := by
  refine Zm.go [some (.ref _), some (.int _)] vl_157 rfl ?_
  refine Zp.iload_n k_157_0 rfl ?_
  refine Zp.i2l k_157_1 ?_
  refine Zp.lconst (lN 0) k_157_2 (by decide) ?_
  refine Zp.aload_n k_157_3 rfl ?_
  refine Zp.getV k_157_4 rfl (zlt rfl) m_93 h3 ?_
  refine Zp.iconst (nI 1) k_157_7 (by decide) ?_
  refine Zp.isub k_157_8 ?_
  refine Zp.i2l k_157_9 ?_
  refine Zp.calls3I vs_131 k_157_10 (Nat.le_of_ble_eq_true rfl) (Nat.le_of_ble_eq_true rfl) (c_in (zi2l _) (lN_z (by decide)) (zm1 hn) ⟨_, rfl, ?_⟩)
  refine Zp.iret _ k_157_13 vr_157 (zbo_narrow _) ?_
  exact zqe hq (zbo_c (by omega))
theorem c_isPartM {x : Int32} (hq : Q (some (.int (zbo (0 ≤ x.toInt ∧ x.toInt ≤ 1)))) I L) : Zm G 158 [.int x] I L Q := by
  refine Zm.go [some (.int _)] vl_158 rfl ?_
  refine Zp.iload_n k_158_0 rfl ?_
  refine Zp.i2l k_158_1 ?_
  refine Zp.lconst (lN 0) k_158_2 (by decide) ?_
  refine Zp.lconst (lN 1) k_158_3 (by decide) ?_
  refine Zp.calls3I vs_131 k_158_4 (Nat.le_of_ble_eq_true rfl) (Nat.le_of_ble_eq_true rfl) (c_in (zi2l _) (lN_z (by decide)) (lN_z (by decide)) ⟨_, rfl, ?_⟩)
  refine Zp.iret _ k_158_7 vr_158 (zbo_narrow _) ?_
  exact zqe hq (zbo_c (by omega))
theorem c_areTwoM {x y : Int32} (h3 : I 93 3 = nI n) (hn : n < 2 ^ 31) (hq : Q (some (.int (zbo ((0 ≤ x.toInt ∧ x.toInt < (n : Int)) ∧ (0 ≤ y.toInt ∧ y.toInt < (n : Int)) ∧ ¬ x.toInt = y.toInt)))) I L) : Zm G 156 [.ref 93, .int x, .int y] I L Q := by
  refine Zm.go [some (.ref _), some (.int _), some (.int _)] vl_156 rfl ?_
  refine Zp.aload_n k_156_0 rfl ?_
  refine Zp.iload_n k_156_1 rfl ?_
  refine Zp.callv1I v_155 k_156_2 m_93 (Nat.le_of_ble_eq_true rfl) (Nat.le_of_ble_eq_true rfl) (c_isHelperM h3 hn ⟨_, rfl, ?_⟩)
  refine Zp.if_eqB k_156_5 (fun c_5 => ?_) (fun c_5 => ?_)
  · refine Zp.iconst (nI 0) k_156_25 (by decide) ?_
    refine Zp.iret _ k_156_26 vr_156 rfl ?_
    exact zq0 hq (by omega)
  · refine Zp.aload_n k_156_8 rfl ?_
    refine Zp.iload_n k_156_9 rfl ?_
    refine Zp.callv1I v_155 k_156_10 m_93 (Nat.le_of_ble_eq_true rfl) (Nat.le_of_ble_eq_true rfl) (c_isHelperM h3 hn ⟨_, rfl, ?_⟩)
    refine Zp.if_eqB k_156_13 (fun c_13 => ?_) (fun c_13 => ?_)
    · refine Zp.iconst (nI 0) k_156_25 (by decide) ?_
      refine Zp.iret _ k_156_26 vr_156 rfl ?_
      exact zq0 hq (by omega)
    · refine Zp.iload_n k_156_16 rfl ?_
      refine Zp.iload_n k_156_17 rfl ?_
      refine Zp.icmp_eqZ _ _ k_156_18 rfl rfl (fun c_18 => ?_) (fun c_18 => ?_)
      · refine Zp.iconst (nI 0) k_156_25 (by decide) ?_
        refine Zp.iret _ k_156_26 vr_156 rfl ?_
        exact zq0 hq (by omega)
      · refine Zp.iconst (nI 1) k_156_21 (by decide) ?_
        refine Zp.goto k_156_22 ?_
        refine Zp.iret _ k_156_26 vr_156 rfl ?_
        exact zq1 hq (by omega)
theorem c_startsM (hq : ∀ I', (∀ j, j < 58 → I' 95 j = I 94 j) → (∀ q, q ≠ 95 → I' q = I q) → Q none I' L) : Zm G 159 [.ref 93] I L Q := by
  have loop : ∀ k i (I1 : zI), i + k = 58 → (∀ j, j < i → I1 95 j = I 94 j) → (∀ q, q ≠ 95 → I1 q = I q) → Zp G 159 2 [some (.ref 93), some (.int (nI i))] [] I1 L Q := by
    intro k
    induction k with
    | zero =>
      intro i I1 hi h1 h2
      have e : i = 58 := by omega
      subst e
      refine Zp.iload_n k_159_2 rfl ?_
      refine Zp.bipush (nI 58) k_159_3 (by decide) ?_
      refine Zp.icmp_geN k_159_5 (by omega) (by omega) (fun c_5 => ?_) (fun c_5 => absurd (by omega) c_5)
      refine Zp.vret k_159_26 vr_159 ?_
      exact hq I1 h1 h2
    | succ k ih =>
      intro i I1 hi h1 h2
      refine Zp.iload_n k_159_2 rfl ?_
      refine Zp.bipush (nI 58) k_159_3 (by decide) ?_
      refine Zp.icmp_geN k_159_5 (by omega) (by omega) (fun c_5 => absurd c_5 (by omega)) (fun c_5 => ?_)
      refine Zp.aload_n k_159_8 rfl ?_
      refine Zp.getR k_159_9 rfl (zlt rfl) m_93 r_93_1 ?_
      refine Zp.iload_n k_159_12 rfl ?_
      refine Zp.aload_n k_159_13 rfl ?_
      refine Zp.getR k_159_14 rfl (zlt rfl) m_93 r_93_0 ?_
      refine Zp.iload_n k_159_17 rfl ?_
      refine Zp.iald _ k_159_18 m_94 rfl (by omega) (zlt rfl) rfl ?_
      refine Zp.iast _ k_159_19 m_95 rfl (by omega) (zlt rfl) ?_
      refine Zp.iinc (nI (_ + 1)) [some (.ref _), some (.int _)] k_159_20 rfl (nI_1 _) (Nat.lt_of_lt_of_eq (zlt rfl : 1 < 2) vl_159.symm) rfl ?_
      refine Zp.goto k_159_23 ?_
      refine ih (i + 1) _ (by omega) (fun j hj => ?_) (fun q hq => by rw [zpu_q _ _ _ hq, h2 q hq])
      by_cases e : j = i
      · subst e; rw [zpu_s, h2 94 (by decide)]
      · rw [zpu_k _ _ _ e]; exact h1 j (by omega)
  refine Zm.go [some (.ref _), none] vl_159 rfl ?_
  refine Zp.iconst (nI 0) k_159_0 (by decide) ?_
  refine Zp.istore_n [some (.ref _), some (.int _)] k_159_1 (Nat.lt_of_lt_of_eq (zlt rfl : 1 < 2) vl_159.symm) rfl ?_
  exact loop 58 0 I (by omega) (fun j hj => absurd hj (Nat.not_lt_zero j)) (fun _ _ => rfl)
theorem c_settlesM (hq : ∀ I', (∀ j, j < 58 → I' 94 j = I 95 j) → (∀ j, 58 ≤ j → I' 94 j = I 94 j) → (∀ q, q ≠ 94 → I' q = I q) → Q none I' L) : Zm G 160 [.ref 93] I L Q := by
  have loop : ∀ k i (I1 : zI), i + k = 58 → (∀ j, j < i → I1 94 j = I 95 j) → (∀ j, 58 ≤ j → I1 94 j = I 94 j) → (∀ q, q ≠ 94 → I1 q = I q) → Zp G 160 2 [some (.ref 93), some (.int (nI i))] [] I1 L Q := by
    intro k
    induction k with
    | zero =>
      intro i I1 hi h1 h3 h2
      have e : i = 58 := by omega
      subst e
      refine Zp.iload_n k_160_2 rfl ?_
      refine Zp.bipush (nI 58) k_160_3 (by decide) ?_
      refine Zp.icmp_geN k_160_5 (by omega) (by omega) (fun c_5 => ?_) (fun c_5 => absurd (by omega) c_5)
      refine Zp.vret k_160_26 vr_160 ?_
      exact hq I1 h1 h3 h2
    | succ k ih =>
      intro i I1 hi h1 h3 h2
      refine Zp.iload_n k_160_2 rfl ?_
      refine Zp.bipush (nI 58) k_160_3 (by decide) ?_
      refine Zp.icmp_geN k_160_5 (by omega) (by omega) (fun c_5 => absurd c_5 (by omega)) (fun c_5 => ?_)
      refine Zp.aload_n k_160_8 rfl ?_
      refine Zp.getR k_160_9 rfl (zlt rfl) m_93 r_93_0 ?_
      refine Zp.iload_n k_160_12 rfl ?_
      refine Zp.aload_n k_160_13 rfl ?_
      refine Zp.getR k_160_14 rfl (zlt rfl) m_93 r_93_1 ?_
      refine Zp.iload_n k_160_17 rfl ?_
      refine Zp.iald _ k_160_18 m_95 rfl (by omega) (zlt rfl) rfl ?_
      refine Zp.iast _ k_160_19 m_94 rfl (by omega) (zlt rfl) ?_
      refine Zp.iinc (nI (_ + 1)) [some (.ref _), some (.int _)] k_160_20 rfl (nI_1 _) (Nat.lt_of_lt_of_eq (zlt rfl : 1 < 2) vl_160.symm) rfl ?_
      refine Zp.goto k_160_23 ?_
      refine ih (i + 1) _ (by omega) (fun j hj => ?_) (fun j hj => by rw [zpu_k _ _ _ (by omega)]; exact h3 j hj) (fun q hq => by rw [zpu_q _ _ _ hq, h2 q hq])
      by_cases e : j = i
      · subst e; rw [zpu_s, h2 95 (by decide)]
      · rw [zpu_k _ _ _ e]; exact h1 j (by omega)
  refine Zm.go [some (.ref _), none] vl_160 rfl ?_
  refine Zp.iconst (nI 0) k_160_0 (by decide) ?_
  refine Zp.istore_n [some (.ref _), some (.int _)] k_160_1 (Nat.lt_of_lt_of_eq (zlt rfl : 1 < 2) vl_160.symm) rfl ?_
  exact loop 58 0 I (by omega) (fun j hj => absurd hj (Nat.not_lt_zero j)) (fun _ _ => rfl) (fun _ _ => rfl)
theorem c_hatesM {a b : Nat} (mp : Mp (I 95) S) (ha : a < 5) (hb : b < 5) (hq : Q (some (.int (nI (sht S (a * 5 + b))))) I L) : Zm G 161 [.ref 93, .int (nI a), .int (nI b)] I L Q := by
  refine Zm.go [some (.ref _), some (.int _), some (.int _)] vl_161 rfl ?_
  refine Zp.aload_n k_161_0 rfl ?_
  refine Zp.getR k_161_1 rfl (zlt rfl) m_93 r_93_1 ?_
  refine Zp.iconst (nI 5) k_161_4 (by decide) ?_
  refine Zp.iconst (nI 5) k_161_5 (by decide) ?_
  refine Zp.iload_n k_161_6 rfl ?_
  refine Zp.imulN k_161_7 ?_
  refine Zp.iaddN k_161_8 ?_
  refine Zp.iload_n k_161_9 rfl ?_
  refine Zp.iaddN k_161_10 ?_
  refine Zp.iald _ k_161_11 m_95 rfl (by omega) (zlt rfl) (by first | exact mp.2.2.1 | exact mp.2.2.2.1 | exact mp.2.2.2.2.1 | exact mp.2.2.2.2.2.1 | exact mp.2.2.2.2.2.2 | exact mp.hh (by omega) (by omega) | exact mp.kk (by omega) | exact mp.2.1 _ (by omega)) ?_
  refine Zp.iret _ k_161_12 vr_161 rfl ?_
  exact hq
theorem c_becomesHateM {a b v : Nat} {x : Int32} (mp : Mp (I 95) S) (hn : sn S ≤ 5) (ha : a < 5) (hb : b < 5) (hv : v = min 9 x.toInt.toNat) (hq : ∀ I', Mp (I' 95) (sUh S (a * 5 + b) v) → FrA I I' → Q none I' L) : Zm G 162 [.ref 93, .int (nI a), .int (nI b), .int x] I L Q := by
  refine Zm.go [some (.ref _), some (.int _), some (.int _), some (.int _)] vl_162 rfl ?_
  refine Zp.aload_n k_162_0 rfl ?_
  refine Zp.getR k_162_1 rfl (zlt rfl) m_93 r_93_1 ?_
  refine Zp.iconst (nI 5) k_162_4 (by decide) ?_
  refine Zp.iconst (nI 5) k_162_5 (by decide) ?_
  refine Zp.iload_n k_162_6 rfl ?_
  refine Zp.imulN k_162_7 ?_
  refine Zp.iaddN k_162_8 ?_
  refine Zp.iload_n k_162_9 rfl ?_
  refine Zp.iaddN k_162_10 ?_
  refine Zp.iload_n k_162_11 rfl ?_
  refine Zp.if_geZ _ k_162_12 rfl (fun c_12 => ?_) (fun c_12 => ?_)
  · refine Zp.iload_n k_162_19 rfl ?_
    refine Zp.bipush (nI 9) k_162_20 (by decide) ?_
    refine Zp.icmp_leZ _ _ k_162_22 rfl (nI_toInt (by omega)) (fun c_22 => ?_) (fun c_22 => ?_)
    · refine Zp.iload_n k_162_30 rfl ?_
      refine Zp.iast _ k_162_31 m_95 rfl (by omega) (zlt rfl) ?_
      refine Zp.vret k_162_32 vr_162 ?_
      refine hq _ (mp.uh hn ?_ ha hb) (FrA.pu I _ (by omega))
      first | exact congrArg nI (by omega) | (rw [show v = x.toInt.toNat by omega]; exact z_nI (by omega))
    · refine Zp.bipush (nI 9) k_162_25 (by decide) ?_
      refine Zp.goto k_162_27 ?_
      refine Zp.iast _ k_162_31 m_95 rfl (by omega) (zlt rfl) ?_
      refine Zp.vret k_162_32 vr_162 ?_
      refine hq _ (mp.uh hn ?_ ha hb) (FrA.pu I _ (by omega))
      first | exact congrArg nI (by omega) | (rw [show v = x.toInt.toNat by omega]; exact z_nI (by omega))
  · refine Zp.iconst (nI 0) k_162_15 (by decide) ?_
    refine Zp.goto k_162_16 ?_
    refine Zp.iast _ k_162_31 m_95 rfl (by omega) (zlt rfl) ?_
    refine Zp.vret k_162_32 vr_162 ?_
    refine hq _ (mp.uh hn ?_ ha hb) (FrA.pu I _ (by omega))
    first | exact congrArg nI (by omega) | (rw [show v = x.toInt.toNat by omega]; exact z_nI (by omega))
theorem c_feelsM {a b : Nat} (mp : Mp (I 95) S) (ho : So S) (ha : a < sn S) (hb : b < sn S) (hq : Q (some (.int (nI (fl S a b)))) I L) : Zm G 163 [.ref 93, .int (nI a), .int (nI b)] I L Q := by
  have o1 := ho.1
  have hk := ho.2.2.2.2.2.1 a
  have hj := ho.2.2.2.2.2.2 (a * 5 + b)
  refine Zm.go [some (.ref _), some (.int _), some (.int _), none] vl_163 rfl ?_
  refine Zp.aload_n k_163_0 rfl ?_
  refine Zp.iload_n k_163_1 rfl ?_
  refine Zp.iload_n k_163_2 rfl ?_
  refine Zp.callv2I v_161 k_163_3 m_93 (Nat.le_of_ble_eq_true rfl) (Nat.le_of_ble_eq_true rfl) (c_hatesM mp (by omega) (by omega) ⟨_, rfl, ?_⟩)
  refine Zp.istore_n [some (.ref _), some (.int _), some (.int _), some (.int _)] k_163_6 (Nat.lt_of_lt_of_eq (zlt rfl : 3 < 4) vl_163.symm) rfl ?_
  refine Zp.aload_n k_163_7 rfl ?_
  refine Zp.getR k_163_8 rfl (zlt rfl) m_93 r_93_1 ?_
  refine Zp.iconst (nI 0) k_163_11 (by decide) ?_
  refine Zp.iload_n k_163_12 rfl ?_
  refine Zp.iaddN k_163_13 ?_
  refine Zp.iald _ k_163_14 m_95 rfl (by omega) (zlt rfl) (by first | exact mp.2.2.1 | exact mp.2.2.2.1 | exact mp.2.2.2.2.1 | exact mp.2.2.2.2.2.1 | exact mp.2.2.2.2.2.2 | exact mp.hh (by omega) (by omega) | exact mp.kk (by omega) | exact mp.2.1 _ (by omega)) ?_
  refine Zp.tabEq _ 1 40 k_163_15 (nI_toInt (by omega)) (by decide) (by decide) rfl (by decide) (fun c_15_1 => ?_) (fun n_15_1 => ?_)
  · refine Zp.iload_n k_163_40 rfl ?_
    refine Zp.if_leN k_163_41 (by omega) (fun c_41 => ?_) (fun c_41 => ?_)
    · refine Zp.iconst (nI 0) k_163_50 (by decide) ?_
      refine Zp.iret _ k_163_51 vr_163 rfl ?_
      refine zqN hq ?_
      rcases (by omega : skd S a = 0 ∨ skd S a = 1 ∨ skd S a = 2 ∨ skd S a = 3) with e | e | e | e <;> simp only [fl, e] <;> (try split) <;> omega
    · refine Zp.iload_n k_163_44 rfl ?_
      refine Zp.iconst (nI 1) k_163_45 (by decide) ?_
      refine Zp.isubN k_163_46 (by omega) ?_
      refine Zp.goto k_163_47 ?_
      refine Zp.iret _ k_163_51 vr_163 rfl ?_
      refine zqN hq ?_
      rcases (by omega : skd S a = 0 ∨ skd S a = 1 ∨ skd S a = 2 ∨ skd S a = 3) with e | e | e | e <;> simp only [fl, e] <;> (try split) <;> omega
  refine Zp.tabEq _ 2 52 k_163_15 (nI_toInt (by omega)) (by decide) (by decide) rfl (by decide) (fun c_15_2 => ?_) (fun n_15_2 => ?_)
  · refine Zp.iload_n k_163_52 rfl ?_
    refine Zp.iconst (nI 3) k_163_53 (by decide) ?_
    refine Zp.icmp_geN k_163_54 (by omega) (by omega) (fun c_54 => ?_) (fun c_54 => ?_)
    · refine Zp.iconst (nI 3) k_163_61 (by decide) ?_
      refine Zp.iret _ k_163_62 vr_163 rfl ?_
      refine zqN hq ?_
      rcases (by omega : skd S a = 0 ∨ skd S a = 1 ∨ skd S a = 2 ∨ skd S a = 3) with e | e | e | e <;> simp only [fl, e] <;> (try split) <;> omega
    · refine Zp.iload_n k_163_57 rfl ?_
      refine Zp.goto k_163_58 ?_
      refine Zp.iret _ k_163_62 vr_163 rfl ?_
      refine zqN hq ?_
      rcases (by omega : skd S a = 0 ∨ skd S a = 1 ∨ skd S a = 2 ∨ skd S a = 3) with e | e | e | e <;> simp only [fl, e] <;> (try split) <;> omega
  refine Zp.tabEq _ 3 63 k_163_15 (nI_toInt (by omega)) (by decide) (by decide) rfl (by decide) (fun c_15_3 => ?_) (fun n_15_3 => ?_)
  · refine Zp.iconst (nI 2) k_163_63 (by decide) ?_
    refine Zp.iload_n k_163_64 rfl ?_
    refine Zp.imulN k_163_65 ?_
    refine Zp.iret _ k_163_66 vr_163 rfl ?_
    refine zqN hq ?_
    rcases (by omega : skd S a = 0 ∨ skd S a = 1 ∨ skd S a = 2 ∨ skd S a = 3) with e | e | e | e <;> simp only [fl, e] <;> (try split) <;> omega
  refine Zp.tabNo _ 67 k_163_15 (nI_toInt (by omega)) (by omega) (by decide) ?_
  refine Zp.iload_n k_163_67 rfl ?_
  refine Zp.iret _ k_163_68 vr_163 rfl ?_
  refine zqN hq ?_
  rcases (by omega : skd S a = 0 ∨ skd S a = 1 ∨ skd S a = 2 ∨ skd S a = 3) with e | e | e | e <;> simp only [fl, e] <;> (try split) <;> omega
theorem c_leastM {a b : Nat} (ha : a < 2 ^ 31) (hb : b < 2 ^ 31) (hq : Q (some (.int (nI (min a b)))) I L) : Zm G 164 [.int (nI a), .int (nI b)] I L Q := by
  refine Zm.go [some (.int _), some (.int _)] vl_164 rfl ?_
  refine Zp.iload_n k_164_0 rfl ?_
  refine Zp.iload_n k_164_1 rfl ?_
  refine Zp.icmp_geN k_164_2 (by omega) (by omega) (fun c_2 => ?_) (fun c_2 => ?_)
  · refine Zp.iload_n k_164_9 rfl ?_
    refine Zp.iret _ k_164_10 vr_164 rfl ?_
    exact zqN hq (by omega)
  · refine Zp.iload_n k_164_5 rfl ?_
    refine Zp.goto k_164_6 ?_
    refine Zp.iret _ k_164_10 vr_164 rfl ?_
    exact zqN hq (by omega)
theorem c_turnOfM {a b : Nat} (mp : Mp (I 95) S) (ho : So S) (ha : a < sn S) (hb : b < sn S) (hq : Q (some (.int (nI (tn S a b)))) I L) : Zm G 165 [.ref 93, .int (nI a), .int (nI b)] I L Q := by
  have h1 := fl_le ho a b
  have h2 := fl_le ho b a
  refine Zm.go [some (.ref _), some (.int _), some (.int _)] vl_165 rfl ?_
  refine Zp.aload_n k_165_0 rfl ?_
  refine Zp.iload_n k_165_1 rfl ?_
  refine Zp.iload_n k_165_2 rfl ?_
  refine Zp.callv2I v_163 k_165_3 m_93 (Nat.le_of_ble_eq_true rfl) (Nat.le_of_ble_eq_true rfl) (c_feelsM mp ho ha hb ⟨_, rfl, ?_⟩)
  refine Zp.aload_n k_165_6 rfl ?_
  refine Zp.iload_n k_165_7 rfl ?_
  refine Zp.iload_n k_165_8 rfl ?_
  refine Zp.callv2I v_163 k_165_9 m_93 (Nat.le_of_ble_eq_true rfl) (Nat.le_of_ble_eq_true rfl) (c_feelsM mp ho hb ha ⟨_, rfl, ?_⟩)
  refine Zp.calls2I vs_164 k_165_12 (Nat.le_of_ble_eq_true rfl) (Nat.le_of_ble_eq_true rfl) (c_leastM (by omega) (by omega) ⟨_, rfl, ?_⟩)
  refine Zp.iret _ k_165_15 vr_165 rfl ?_
  exact hq
theorem c_coolsByM {a : Nat} (mp : Mp (I 95) S) (ho : So S) (hst : sstep S < 2 ^ 30) (ha : a < sn S) (hq : Q (some (.int (nI (cby S a)))) I L) : Zm G 166 [.ref 93, .int (nI a)] I L Q := by
  have o1 := ho.1
  have hk := ho.2.2.2.2.2.1 a
  refine Zm.go [some (.ref _), some (.int _)] vl_166 rfl ?_
  refine Zp.aload_n k_166_0 rfl ?_
  refine Zp.getR k_166_1 rfl (zlt rfl) m_93 r_93_1 ?_
  refine Zp.iconst (nI 0) k_166_4 (by decide) ?_
  refine Zp.iload_n k_166_5 rfl ?_
  refine Zp.iaddN k_166_6 ?_
  refine Zp.iald _ k_166_7 m_95 rfl (by omega) (zlt rfl) (by first | exact mp.2.2.1 | exact mp.2.2.2.1 | exact mp.2.2.2.2.1 | exact mp.2.2.2.2.2.1 | exact mp.2.2.2.2.2.2 | exact mp.hh (by omega) (by omega) | exact mp.kk (by omega) | exact mp.2.1 _ (by omega)) ?_
  refine Zp.iconst (nI 1) k_166_8 (by decide) ?_
  refine Zp.icmp_neN k_166_9 (by omega) (by omega) (fun c_9 => ?_) (fun c_9 => ?_)
  · refine Zp.aload_n k_166_24 rfl ?_
    refine Zp.getR k_166_25 rfl (zlt rfl) m_93 r_93_1 ?_
    refine Zp.iconst (nI 0) k_166_28 (by decide) ?_
    refine Zp.iload_n k_166_29 rfl ?_
    refine Zp.iaddN k_166_30 ?_
    refine Zp.iald _ k_166_31 m_95 rfl (by omega) (zlt rfl) (by first | exact mp.2.2.1 | exact mp.2.2.2.1 | exact mp.2.2.2.2.1 | exact mp.2.2.2.2.2.1 | exact mp.2.2.2.2.2.2 | exact mp.hh (by omega) (by omega) | exact mp.kk (by omega) | exact mp.2.1 _ (by omega)) ?_
    refine Zp.iconst (nI 3) k_166_32 (by decide) ?_
    refine Zp.icmp_neN k_166_33 (by omega) (by omega) (fun c_33 => ?_) (fun c_33 => ?_)
    · refine Zp.iconst (nI 1) k_166_40 (by decide) ?_
      refine Zp.iret _ k_166_41 vr_166 rfl ?_
      refine zqN hq ?_
      unfold cby
      first | rw [if_pos c_9] | rw [if_neg c_9, if_pos c_33] | rw [if_neg c_9, if_neg c_33]
    · refine Zp.iconst (nI 2) k_166_36 (by decide) ?_
      refine Zp.goto k_166_37 ?_
      refine Zp.iret _ k_166_41 vr_166 rfl ?_
      refine zqN hq ?_
      unfold cby
      first | rw [if_pos c_9] | rw [if_neg c_9, if_pos c_33] | rw [if_neg c_9, if_neg c_33]
  · refine Zp.aload_n k_166_12 rfl ?_
    refine Zp.getR k_166_13 rfl (zlt rfl) m_93 r_93_1 ?_
    refine Zp.bipush (nI 32) k_166_16 (by decide) ?_
    refine Zp.iald _ k_166_18 m_95 rfl (by omega) (zlt rfl) (by first | exact mp.2.2.1 | exact mp.2.2.2.1 | exact mp.2.2.2.2.1 | exact mp.2.2.2.2.2.1 | exact mp.2.2.2.2.2.2 | exact mp.hh (by omega) (by omega) | exact mp.kk (by omega) | exact mp.2.1 _ (by omega)) ?_
    refine Zp.iconst (nI 2) k_166_19 (by decide) ?_
    refine Zp.iremN k_166_20 (by omega) (by omega) (by omega) ?_
    refine Zp.goto k_166_21 ?_
    refine Zp.iret _ k_166_41 vr_166 rfl ?_
    refine zqN hq ?_
    unfold cby
    first | rw [if_pos c_9] | rw [if_neg c_9, if_pos c_33] | rw [if_neg c_9, if_neg c_33]
theorem zsubt {h l : Nat} (h1 : h < 2 ^ 30) (h2 : l < 2 ^ 30) : (nI h - nI l).toInt = (h : Int) - l := pk_sub_toInt h1 h2
theorem cby_le (S : zSo) (a : Nat) : cby S a ≤ 2 := by
  unfold cby
  repeat' split
  all_goals omega
theorem c_coolsOffM {a b : Nat} (mp : Mp (I 95) S) (ho : So S) (hst : sstep S < 2 ^ 30) (ha : a < sn S) (hb : b < sn S) (hq : ∀ I', Mp (I' 95) (sUstep (coS (coS S a b) b a)) → FrA I I' → Q none I' L) : Zm G 167 [.ref 93, .int (nI a), .int (nI b)] I L Q := by
  have o1 := ho.1
  have hc1 := cby_le S a
  have hc2 := cby_le (coS S a b) b
  have hj := ho.2.2.2.2.2.2 (a * 5 + b)
  have hj2 := (ho.co a b).2.2.2.2.2.2 (b * 5 + a)
  refine Zm.go [some (.ref _), some (.int _), some (.int _)] vl_167 rfl ?_
  refine Zp.aload_n k_167_0 rfl ?_
  refine Zp.iload_n k_167_1 rfl ?_
  refine Zp.iload_n k_167_2 rfl ?_
  refine Zp.aload_n k_167_3 rfl ?_
  refine Zp.iload_n k_167_4 rfl ?_
  refine Zp.iload_n k_167_5 rfl ?_
  refine Zp.callv2I v_161 k_167_6 m_93 (Nat.le_of_ble_eq_true rfl) (Nat.le_of_ble_eq_true rfl) (c_hatesM mp (by omega) (by omega) ⟨_, rfl, ?_⟩)
  refine Zp.aload_n k_167_9 rfl ?_
  refine Zp.iload_n k_167_10 rfl ?_
  refine Zp.callv1I v_166 k_167_11 m_93 (Nat.le_of_ble_eq_true rfl) (Nat.le_of_ble_eq_true rfl) (c_coolsByM mp ho hst ha ⟨_, rfl, ?_⟩)
  refine Zp.isub k_167_14 ?_
  refine Zp.callv3V v_162 k_167_15 m_93 (Nat.le_of_ble_eq_true rfl) (Nat.le_of_ble_eq_true rfl) (c_becomesHateM mp o1 (by omega) (by omega) (v := sht S (a * 5 + b) - cby S a) (by rw [zsubt (by omega) (by omega)]; omega) (fun I2 mp2 f2 => ⟨rfl, ?_⟩))
  refine Zp.aload_n k_167_18 rfl ?_
  refine Zp.iload_n k_167_19 rfl ?_
  refine Zp.iload_n k_167_20 rfl ?_
  refine Zp.aload_n k_167_21 rfl ?_
  refine Zp.iload_n k_167_22 rfl ?_
  refine Zp.iload_n k_167_23 rfl ?_
  refine Zp.callv2I v_161 k_167_24 m_93 (Nat.le_of_ble_eq_true rfl) (Nat.le_of_ble_eq_true rfl) (c_hatesM (S := coS S a b) mp2 (by omega) (by omega) ⟨_, rfl, ?_⟩)
  refine Zp.aload_n k_167_27 rfl ?_
  refine Zp.iload_n k_167_28 rfl ?_
  refine Zp.callv1I v_166 k_167_29 m_93 (Nat.le_of_ble_eq_true rfl) (Nat.le_of_ble_eq_true rfl) (c_coolsByM (S := coS S a b) mp2 (ho.co a b) hst hb ⟨_, rfl, ?_⟩)
  refine Zp.isub k_167_32 ?_
  refine Zp.callv3V v_162 k_167_33 m_93 (Nat.le_of_ble_eq_true rfl) (Nat.le_of_ble_eq_true rfl) (c_becomesHateM (S := coS S a b) mp2 o1 (by omega) (by omega) (v := sht (coS S a b) (b * 5 + a) - cby (coS S a b) b) (by rw [zsubt (by omega) (by omega)]; omega) (fun I3 mp3 f3 => ⟨rfl, ?_⟩))
  refine Zp.aload_n k_167_36 rfl ?_
  refine Zp.getR k_167_37 rfl (zlt rfl) m_93 r_93_1 ?_
  refine Zp.bipush (nI 32) k_167_40 (by decide) ?_
  refine Zp.dup2 k_167_42 rfl rfl ?_
  refine Zp.iald _ k_167_43 m_95 rfl (by omega) (zlt rfl) mp3.2.2.2.2.1 ?_
  refine Zp.iconst (nI 1) k_167_44 (by decide) ?_
  refine Zp.iaddN k_167_45 ?_
  refine Zp.iast _ k_167_46 m_95 rfl (by omega) (zlt rfl) ?_
  refine Zp.vret k_167_47 vr_167 ?_
  exact hq _ (Mp.ustep (S := coS (coS S a b) b a) mp3 o1) ((f2.tr f3).tr (FrA.pu _ _ (by omega)))
theorem c_stirsOnM {a b : Nat} (mp : Mp (I 95) S) (ho : So S) (hst : sstep S < 2 ^ 30) (ha : a < sn S) (hb : b < sn S)
    (h0 : sset S = 1 → Q (some (.int (nI 0))) I L) (h1 : sset S = 0 → ∀ I', Mp (I' 95) (stS S a b) → FrA I I' → Q (some (.int (nI 1))) I' L) : Zm G 168 [.ref 93, .int (nI a), .int (nI b)] I L Q := by
  obtain ⟨o1, o2, o3, o4, o5, o6, o7⟩ := id ho
  have tail : ∀ (I1 : zI) (S1 : zSo), sset S = 0 → Mp (I1 95) S1 → So S1 → sstep S1 < 2 ^ 30 → sn S1 = sn S → FrA I I1 → sUstep (coS (coS S1 a b) b a) = stS S a b → Zp G 168 69 [some (.ref 93), some (.int (nI a)), some (.int (nI b))] [] I1 L Q := by
    intro I1 S1 hz mp1 ho1 hst1 hn1 hf1 he
    refine Zp.aload_n k_168_69 rfl ?_
    refine Zp.iload_n k_168_70 rfl ?_
    refine Zp.iload_n k_168_71 rfl ?_
    refine Zp.callv2V v_167 k_168_72 m_93 (Nat.le_of_ble_eq_true rfl) (Nat.le_of_ble_eq_true rfl) (c_coolsOffM mp1 ho1 hst1 (by omega) (by omega) (fun I2 mp2 f2 => ⟨rfl, ?_⟩))
    refine Zp.iconst (nI 1) k_168_75 (by decide) ?_
    refine Zp.iret _ k_168_76 vr_168 rfl ?_
    exact h1 hz _ (he ▸ mp2) (hf1.tr f2)
  have hj := o7 (a * 5 + b)
  have hj2 := o7 (b * 5 + a)
  have ht := tn_le ho a b
  refine Zm.go [some (.ref _), some (.int _), some (.int _)] vl_168 rfl ?_
  refine Zp.aload_n k_168_0 rfl ?_
  refine Zp.getR k_168_1 rfl (zlt rfl) m_93 r_93_1 ?_
  refine Zp.bipush (nI 34) k_168_4 (by decide) ?_
  refine Zp.iald _ k_168_6 m_95 rfl (by omega) (zlt rfl) (by first | exact mp.2.2.1 | exact mp.2.2.2.1 | exact mp.2.2.2.2.1 | exact mp.2.2.2.2.2.1 | exact mp.2.2.2.2.2.2 | exact mp.hh (by omega) (by omega) | exact mp.kk (by omega) | exact mp.2.1 _ (by omega)) ?_
  refine Zp.iconst (nI 1) k_168_7 (by decide) ?_
  refine Zp.icmp_neN k_168_8 (by omega) (by omega) (fun c_8 => ?_) (fun c_8 => ?_)
  · refine Zp.aload_n k_168_13 rfl ?_
    refine Zp.iload_n k_168_14 rfl ?_
    refine Zp.iload_n k_168_15 rfl ?_
    refine Zp.callv2I v_161 k_168_16 m_93 (Nat.le_of_ble_eq_true rfl) (Nat.le_of_ble_eq_true rfl) (c_hatesM mp (by omega) (by omega) ⟨_, rfl, ?_⟩)
    refine Zp.if_neN k_168_19 (by omega) (fun c_19 => ?_) (fun c_19 => ?_)
    · refine Zp.aload_n k_168_42 rfl ?_
      refine Zp.getR k_168_43 rfl (zlt rfl) m_93 r_93_1 ?_
      refine Zp.bipush (nI 33) k_168_46 (by decide) ?_
      refine Zp.sipush (nI 999) k_168_48 (by decide) ?_
      refine Zp.aload_n k_168_51 rfl ?_
      refine Zp.getR k_168_52 rfl (zlt rfl) m_93 r_93_1 ?_
      refine Zp.bipush (nI 33) k_168_55 (by decide) ?_
      refine Zp.iald _ k_168_57 m_95 rfl (by omega) (zlt rfl) (by first | exact mp.2.2.1 | exact mp.2.2.2.1 | exact mp.2.2.2.2.1 | exact mp.2.2.2.2.2.1 | exact mp.2.2.2.2.2.2 | exact mp.hh (by omega) (by omega) | exact mp.kk (by omega) | exact mp.2.1 _ (by omega)) ?_
      refine Zp.aload_n k_168_58 rfl ?_
      refine Zp.iload_n k_168_59 rfl ?_
      refine Zp.iload_n k_168_60 rfl ?_
      refine Zp.callv2I v_165 k_168_61 m_93 (Nat.le_of_ble_eq_true rfl) (Nat.le_of_ble_eq_true rfl) (c_turnOfM mp ho ha hb ⟨_, rfl, ?_⟩)
      refine Zp.iaddN k_168_64 ?_
      refine Zp.calls2I vs_164 k_168_65 (Nat.le_of_ble_eq_true rfl) (Nat.le_of_ble_eq_true rfl) (c_leastM (by omega) (by omega) ⟨_, rfl, ?_⟩)
      refine Zp.iast _ k_168_68 m_95 rfl (by omega) (zlt rfl) ?_
      first | exact tail _ _ (by omega) (mp.uset o1) ho.uset hst rfl (FrA.pu _ _ (by omega)) (by unfold stS; rw [if_pos ⟨c_19, c_28⟩]) | exact tail _ _ (by omega) (mp.udone o1) (ho.udone (Nat.min_le_left _ _)) hst rfl (FrA.pu _ _ (by omega)) (by unfold stS; rw [if_neg (by omega)])
    · refine Zp.aload_n k_168_22 rfl ?_
      refine Zp.iload_n k_168_23 rfl ?_
      refine Zp.iload_n k_168_24 rfl ?_
      refine Zp.callv2I v_161 k_168_25 m_93 (Nat.le_of_ble_eq_true rfl) (Nat.le_of_ble_eq_true rfl) (c_hatesM mp (by omega) (by omega) ⟨_, rfl, ?_⟩)
      refine Zp.if_neN k_168_28 (by omega) (fun c_28 => ?_) (fun c_28 => ?_)
      · refine Zp.aload_n k_168_42 rfl ?_
        refine Zp.getR k_168_43 rfl (zlt rfl) m_93 r_93_1 ?_
        refine Zp.bipush (nI 33) k_168_46 (by decide) ?_
        refine Zp.sipush (nI 999) k_168_48 (by decide) ?_
        refine Zp.aload_n k_168_51 rfl ?_
        refine Zp.getR k_168_52 rfl (zlt rfl) m_93 r_93_1 ?_
        refine Zp.bipush (nI 33) k_168_55 (by decide) ?_
        refine Zp.iald _ k_168_57 m_95 rfl (by omega) (zlt rfl) (by first | exact mp.2.2.1 | exact mp.2.2.2.1 | exact mp.2.2.2.2.1 | exact mp.2.2.2.2.2.1 | exact mp.2.2.2.2.2.2 | exact mp.hh (by omega) (by omega) | exact mp.kk (by omega) | exact mp.2.1 _ (by omega)) ?_
        refine Zp.aload_n k_168_58 rfl ?_
        refine Zp.iload_n k_168_59 rfl ?_
        refine Zp.iload_n k_168_60 rfl ?_
        refine Zp.callv2I v_165 k_168_61 m_93 (Nat.le_of_ble_eq_true rfl) (Nat.le_of_ble_eq_true rfl) (c_turnOfM mp ho ha hb ⟨_, rfl, ?_⟩)
        refine Zp.iaddN k_168_64 ?_
        refine Zp.calls2I vs_164 k_168_65 (Nat.le_of_ble_eq_true rfl) (Nat.le_of_ble_eq_true rfl) (c_leastM (by omega) (by omega) ⟨_, rfl, ?_⟩)
        refine Zp.iast _ k_168_68 m_95 rfl (by omega) (zlt rfl) ?_
        first | exact tail _ _ (by omega) (mp.uset o1) ho.uset hst rfl (FrA.pu _ _ (by omega)) (by unfold stS; rw [if_pos ⟨c_19, c_28⟩]) | exact tail _ _ (by omega) (mp.udone o1) (ho.udone (Nat.min_le_left _ _)) hst rfl (FrA.pu _ _ (by omega)) (by unfold stS; rw [if_neg (by omega)])
      · refine Zp.aload_n k_168_31 rfl ?_
        refine Zp.getR k_168_32 rfl (zlt rfl) m_93 r_93_1 ?_
        refine Zp.bipush (nI 34) k_168_35 (by decide) ?_
        refine Zp.iconst (nI 1) k_168_37 (by decide) ?_
        refine Zp.iast _ k_168_38 m_95 rfl (by omega) (zlt rfl) ?_
        refine Zp.goto k_168_39 ?_
        first | exact tail _ _ (by omega) (mp.uset o1) ho.uset hst rfl (FrA.pu _ _ (by omega)) (by unfold stS; rw [if_pos ⟨c_19, c_28⟩]) | exact tail _ _ (by omega) (mp.udone o1) (ho.udone (Nat.min_le_left _ _)) hst rfl (FrA.pu _ _ (by omega)) (by unfold stS; rw [if_neg (by omega)])
  · refine Zp.iconst (nI 0) k_168_11 (by decide) ?_
    refine Zp.iret _ k_168_12 vr_168 rfl ?_
    exact h0 (by omega)
theorem c_stirsM {a b : Nat} (mp : Mp (I 95) S) (ho : So S) (hst : sstep S < 2 ^ 30) (ha : a < sn S) (hb : b < sn S)
    (hq : ∀ I', Mp (I' 95) (if canS S then stS S a b else S) → FrA I I' → Q (some (.int (zbo (canS S)))) I' L) : Zm G 169 [.ref 93, .int (nI a), .int (nI b)] I L Q := by
  obtain ⟨o1, o2, o3, o4, o5, o6, o7⟩ := id ho
  have no : ¬ canS S → Q (some (.int (nI 0))) I L := fun h => by
    have := hq I (by rw [if_neg h]; exact mp) (FrA.rf I)
    exact zq0 this h
  have yes : canS S → ∀ I', Mp (I' 95) (stS S a b) → FrA I I' → Q (some (.int (nI 1))) I' L := fun h I' m1 f1 => by
    have := hq I' (by rw [if_pos h]; exact m1) f1
    exact zq1 this h
  have tl : ∀ (I1 : zI) (c : Nat), c ≤ 1 → (c = 0 → Q (some (.int (nI 0))) I1 L) → (c = 1 → Q (some (.int (nI 1))) I1 L) → Zp G 169 23 [some (.ref 93), some (.int (nI a)), some (.int (nI b))] [.int (nI c)] I1 L Q := by
    intro I1 c hc g0 g1
    refine Zp.if_eqN k_169_23 (by omega) (fun c_23 => ?_) (fun c_23 => ?_)
    · refine Zp.iconst (nI 0) k_169_30 (by decide) ?_
      refine Zp.iret _ k_169_31 vr_169 rfl ?_
      first | exact g1 (by omega) | exact g0 (by omega)
    · refine Zp.iconst (nI 1) k_169_26 (by decide) ?_
      refine Zp.goto k_169_27 ?_
      refine Zp.iret _ k_169_31 vr_169 rfl ?_
      first | exact g1 (by omega) | exact g0 (by omega)
  refine Zm.go [some (.ref _), some (.int _), some (.int _)] vl_169 rfl ?_
  refine Zp.aload_n k_169_0 rfl ?_
  refine Zp.getR k_169_1 rfl (zlt rfl) m_93 r_93_1 ?_
  refine Zp.bipush (nI 32) k_169_4 (by decide) ?_
  refine Zp.iald _ k_169_6 m_95 rfl (by omega) (zlt rfl) (by first | exact mp.2.2.1 | exact mp.2.2.2.1 | exact mp.2.2.2.2.1 | exact mp.2.2.2.2.2.1 | exact mp.2.2.2.2.2.2 | exact mp.hh (by omega) (by omega) | exact mp.kk (by omega) | exact mp.2.1 _ (by omega)) ?_
  refine Zp.aload_n k_169_7 rfl ?_
  refine Zp.getR k_169_8 rfl (zlt rfl) m_93 r_93_1 ?_
  refine Zp.bipush (nI 31) k_169_11 (by decide) ?_
  refine Zp.iald _ k_169_13 m_95 rfl (by omega) (zlt rfl) (by first | exact mp.2.2.1 | exact mp.2.2.2.1 | exact mp.2.2.2.2.1 | exact mp.2.2.2.2.2.1 | exact mp.2.2.2.2.2.2 | exact mp.hh (by omega) (by omega) | exact mp.kk (by omega) | exact mp.2.1 _ (by omega)) ?_
  refine Zp.icmp_geN k_169_14 (by omega) (by omega) (fun c_14 => ?_) (fun c_14 => ?_)
  · refine Zp.iconst (nI 0) k_169_30 (by decide) ?_
    refine Zp.iret _ k_169_31 vr_169 rfl ?_
    exact no (fun z => by have := z.2; omega)
  · refine Zp.aload_n k_169_17 rfl ?_
    refine Zp.iload_n k_169_18 rfl ?_
    refine Zp.iload_n k_169_19 rfl ?_
    refine Zp.callv2I v_168 k_169_20 m_93 (Nat.le_of_ble_eq_true rfl) (Nat.le_of_ble_eq_true rfl) (c_stirsOnM mp ho hst ha hb (fun h9 => ⟨_, rfl, tl I 0 (by omega) (fun _ => no (fun z => by have := z.1; omega)) (fun z => absurd z (by decide))⟩) (fun h9 I2 mp2 f2 => ⟨_, rfl, tl I2 1 (by omega) (fun z => absurd z (by decide)) (fun _ => yes ⟨h9, by omega⟩ I2 mp2 f2)⟩))
    
theorem c_allHateM (mp : Mp (I 95) S) (ho : So S) (hq : Q (some (.int (nI (sm (sht S) 25)))) I L) : Zm G 170 [.ref 93] I L Q := by
  have loop : ∀ n i, i + n = 25 → Zp G 170 4 [some (.ref 93), some (.int (nI (sm (sht S) i))), some (.int (nI i))] [] I L Q := by
    intro n
    induction n with
    | zero =>
      intro i hi
      have e : i = 25 := by omega
      subst e
      refine Zp.iload_n k_170_4 rfl ?_
      refine Zp.bipush (nI 25) k_170_5 (by decide) ?_
      refine Zp.icmp_geN k_170_7 (by omega) (by omega) (fun c_7 => ?_) (fun c_7 => absurd (by omega) c_7)
      refine Zp.iload_n k_170_27 rfl ?_
      refine Zp.iret _ k_170_28 vr_170 rfl ?_
      exact hq
    | succ n ih =>
      intro i hi
      refine Zp.iload_n k_170_4 rfl ?_
      refine Zp.bipush (nI 25) k_170_5 (by decide) ?_
      refine Zp.icmp_geN k_170_7 (by omega) (by omega) (fun c_7 => absurd c_7 (by omega)) (fun c_7 => ?_)
      refine Zp.iload_n k_170_10 rfl ?_
      refine Zp.aload_n k_170_11 rfl ?_
      refine Zp.getR k_170_12 rfl (zlt rfl) m_93 r_93_1 ?_
      refine Zp.iconst (nI 5) k_170_15 (by decide) ?_
      refine Zp.iload_n k_170_16 rfl ?_
      refine Zp.iaddN k_170_17 ?_
      refine Zp.iald _ k_170_18 m_95 rfl (by omega) (zlt rfl) (mp.2.1 _ (by omega)) ?_
      refine Zp.iaddN k_170_19 ?_
      refine Zp.istore_n [some (.ref _), some (.int _), some (.int _)] k_170_20 (Nat.lt_of_lt_of_eq (zlt rfl : 1 < 3) vl_170.symm) rfl ?_
      refine Zp.iinc (nI (_ + 1)) [some (.ref _), some (.int _), some (.int _)] k_170_21 rfl (nI_1 _) (Nat.lt_of_lt_of_eq (zlt rfl : 2 < 3) vl_170.symm) rfl ?_
      refine Zp.goto k_170_24 ?_
      exact ih (i + 1) (by omega)
  refine Zm.go [some (.ref _), none, none] vl_170 rfl ?_
  refine Zp.iconst (nI 0) k_170_0 (by decide) ?_
  refine Zp.istore_n [some (.ref _), some (.int _), none] k_170_1 (Nat.lt_of_lt_of_eq (zlt rfl : 1 < 3) vl_170.symm) rfl ?_
  refine Zp.iconst (nI 0) k_170_2 (by decide) ?_
  refine Zp.istore_n [some (.ref _), some (.int _), some (.int _)] k_170_3 (Nat.lt_of_lt_of_eq (zlt rfl : 2 < 3) vl_170.symm) rfl ?_
  exact loop 25 0 rfl
/-- the rest of a row: slips used, the plan, what was seen -/
def Xp (f : Nat → Int32) (u : Nat) (U : zPl) (E : zSe) : Prop := f 35 = nI u ∧ f 36 = nI U.1 ∧ (∀ i, i < U.1 → f (37 + i) = nI (U.2 i)) ∧ f 45 = nI E.1 ∧ (∀ i, i < E.1 → f (46 + 2 * i) = nI (E.2.1 i)) ∧ ∀ i, i < E.1 → f (46 + 2 * i + 1) = nI (E.2.2 i)
theorem Xp.fr {f g : Nat → Int32} {u : Nat} {U : zPl} {E : zSe} (h : Xp f u U E) (hU : U.1 ≤ 8) (hE : E.1 ≤ 6) (e : ∀ j, 35 ≤ j → j < 58 → g j = f j) : Xp g u U E := by
  obtain ⟨h1, h2, h3, h4, h5, h6⟩ := h
  exact ⟨by rw [e _ (by omega) (by omega)]; exact h1, by rw [e _ (by omega) (by omega)]; exact h2, fun i hi => by rw [e _ (by omega) (by omega)]; exact h3 i hi, by rw [e _ (by omega) (by omega)]; exact h4, fun i hi => by rw [e _ (by omega) (by omega)]; exact h5 i hi, fun i hi => by rw [e _ (by omega) (by omega)]; exact h6 i hi⟩
theorem c_plansGoM {u : Nat} {P : zPl} {E : zSe} (mp : Mp (I 95) S) (ho : So S) (xp : Xp (I 95) u P E) (po : Po (sn S) P) (hst : sstep S < 2 ^ 29)
    (hq : ∀ I', Mp (I' 95) (plG S P.2 P.1) → I' 93 25 = plF S P.2 P.1 → (∀ q, q ≠ 93 → q ≠ 95 → I' q = I q) → (∀ j, j ≠ 25 → I' 93 j = I 93 j) → (∀ j, 35 ≤ j → I' 95 j = I 95 j) → Q none I' L) : Zm G 171 [.ref 93] I L Q := by
  obtain ⟨po1, po2⟩ := id po
  have o1 := ho.1
  have loop : ∀ k i (I1 : zI), i + k = P.1 → Mp (I1 95) (plG S P.2 i) → I1 93 25 = plF S P.2 i → (∀ q, q ≠ 93 → q ≠ 95 → I1 q = I q) → (∀ j, j ≠ 25 → I1 93 j = I 93 j) → (∀ j, 35 ≤ j → I1 95 j = I 95 j) → ∀ v2 : Option Value, (∀ r, v2 ≠ some (.ref r)) → Zp G 171 8 [some (.ref 93), some (.int (nI i)), none] [] I1 L Q := by
    intro k
    induction k with
    | zero =>
      intro i I1 hi mp1 hf g1 g2 g3 _ _
      have e : i = P.1 := by omega
      subst e
      refine Zp.iload_n k_171_8 rfl ?_
      refine Zp.aload_n k_171_9 rfl ?_
      refine Zp.getR k_171_10 rfl (zlt rfl) m_93 r_93_1 ?_
      refine Zp.bipush (nI 36) k_171_13 (by decide) ?_
      refine Zp.iald _ k_171_15 m_95 rfl (by omega) (zlt rfl) ((g3 36 (by decide)).trans xp.2.1) ?_
      refine Zp.icmp_geN k_171_16 (by omega) (by omega) (fun c_16 => ?_) (fun c_16 => absurd (by omega) c_16)
      refine Zp.vret k_171_79 vr_171 ?_
      exact hq I1 mp1 hf g1 g2 g3
    | succ k ih =>
      intro i I1 hi mp1 hf g1 g2 g3 v2 hv2
      obtain ⟨q1, q2, q3, q4, q5⟩ := plG_n S P.2 i
      obtain ⟨b1, b2, b3⟩ := po2 i (by omega)
      have ho1 := plG_o ho P.2 i
      refine Zp.iload_n k_171_8 rfl ?_
      refine Zp.aload_n k_171_9 rfl ?_
      refine Zp.getR k_171_10 rfl (zlt rfl) m_93 r_93_1 ?_
      refine Zp.bipush (nI 36) k_171_13 (by decide) ?_
      refine Zp.iald _ k_171_15 m_95 rfl (by omega) (zlt rfl) ((g3 36 (by decide)).trans xp.2.1) ?_
      refine Zp.icmp_geN k_171_16 (by omega) (by omega) (fun c_16 => absurd c_16 (by omega)) (fun c_16 => ?_)
      refine Zp.aload_n k_171_19 rfl ?_
      refine Zp.aload_n k_171_20 rfl ?_
      refine Zp.getR k_171_21 rfl (zlt rfl) m_93 r_93_1 ?_
      refine Zp.bipush (nI 37) k_171_24 (by decide) ?_
      refine Zp.iload_n k_171_26 rfl ?_
      refine Zp.iaddN k_171_27 ?_
      refine Zp.iald _ k_171_28 m_95 rfl (by omega) (zlt rfl) ((g3 _ (by omega)).trans (xp.2.2.1 _ (by omega))) ?_
      refine Zp.bipush (nI 10) k_171_29 (by decide) ?_
      refine Zp.idivN k_171_31 (by omega) (by omega) (by omega) ?_
      refine Zp.aload_n k_171_32 rfl ?_
      refine Zp.getR k_171_33 rfl (zlt rfl) m_93 r_93_1 ?_
      refine Zp.bipush (nI 37) k_171_36 (by decide) ?_
      refine Zp.iload_n k_171_38 rfl ?_
      refine Zp.iaddN k_171_39 ?_
      refine Zp.iald _ k_171_40 m_95 rfl (by omega) (zlt rfl) ((g3 _ (by omega)).trans (xp.2.2.1 _ (by omega))) ?_
      refine Zp.bipush (nI 10) k_171_41 (by decide) ?_
      refine Zp.iremN k_171_43 (by omega) (by omega) (by omega) ?_
      refine Zp.callv2I v_169 k_171_44 m_93 (Nat.le_of_ble_eq_true rfl) (Nat.le_of_ble_eq_true rfl) (c_stirsM mp1 ho1 (by omega) (by omega) (by omega) (fun I2 mp2 f2 => ⟨_, rfl, ?_⟩))
      refine Zp.istore_n [some (.ref _), some (.int _), some (.int _)] k_171_47 (Nat.lt_of_lt_of_eq (zlt rfl : 2 < 3) vl_171.symm) rfl ?_
      have hf2 : I2 93 25 = plF S P.2 i := by rw [f2.1 93 (by decide)]; exact hf
      refine Zp.aload_n k_171_48 rfl ?_
      refine Zp.iload_n k_171_49 rfl ?_
      refine Zp.if_neB k_171_50 (fun c_50 => ?_) (fun c_50 => ?_)
      · refine Zp.aload_n k_171_66 rfl ?_
        refine Zp.getV k_171_67 rfl (zlt rfl) m_93 hf2 ?_
        refine Zp.putI k_171_70 rfl (zlt rfl) m_93 ?_
        refine Zp.iinc (nI (_ + 1)) [some (.ref _), some (.int _), some (.int _)] k_171_73 rfl (nI_1 _) (Nat.lt_of_lt_of_eq (zlt rfl : 1 < 3) vl_171.symm) rfl ?_
        refine Zp.goto k_171_76 ?_
        refine Zp.locs [some (.ref 93), some (.int (nI (i + 1))), none] (fun j v hj => ?_) (ih (i + 1) _ (by omega) ?_ ?_ (fun q a0 a1 => ?_) (fun j hj => ?_) (fun j hj => ?_) none (fun _ => by simp))
        · match j, hj with
          | 0, hj => exact hj
          | 1, hj => exact hj
          | 2, hj => exact absurd hj (by simp)
          | _ + 3, hj => exact absurd hj (by simp)
        · rw [zpu_q _ _ _ (by decide)]; unfold plG; exact mp2
        · rw [zpu_s]
          show _ = (if plF S P.2 i = -4 then (if canS (plG S P.2 i) then -4 else nI i) else plF S P.2 i)
          by_cases e : plF S P.2 i = -4
          · rw [if_pos e]; first | (rw [if_pos c_50]; exact e) | (rw [if_neg c_50]; done) | exact absurd (by rw [e]; decide) c_59
          · rw [if_neg e]; first | done | exact absurd (z4 c_59) e
        · rw [zpu_q _ _ _ a0, f2.1 q a1]; exact g1 q a0 a1
        · rw [zpu_k _ _ _ hj, f2.1 93 (by decide)]; exact g2 j hj
        · rw [zpu_q _ _ _ (by decide), f2.2 j hj]; exact g3 j hj
      · refine Zp.aload_n k_171_53 rfl ?_
        refine Zp.getV k_171_54 rfl (zlt rfl) m_93 hf2 ?_
        refine Zp.bipush (-4) k_171_57 (by decide) ?_
        refine Zp.icmp_neZ _ (-4) k_171_59 rfl (by decide) (fun c_59 => ?_) (fun c_59 => ?_)
        · refine Zp.aload_n k_171_66 rfl ?_
          refine Zp.getV k_171_67 rfl (zlt rfl) m_93 hf2 ?_
          refine Zp.putI k_171_70 rfl (zlt rfl) m_93 ?_
          refine Zp.iinc (nI (_ + 1)) [some (.ref _), some (.int _), some (.int _)] k_171_73 rfl (nI_1 _) (Nat.lt_of_lt_of_eq (zlt rfl : 1 < 3) vl_171.symm) rfl ?_
          refine Zp.goto k_171_76 ?_
          refine Zp.locs [some (.ref 93), some (.int (nI (i + 1))), none] (fun j v hj => ?_) (ih (i + 1) _ (by omega) ?_ ?_ (fun q a0 a1 => ?_) (fun j hj => ?_) (fun j hj => ?_) none (fun _ => by simp))
          · match j, hj with
            | 0, hj => exact hj
            | 1, hj => exact hj
            | 2, hj => exact absurd hj (by simp)
            | _ + 3, hj => exact absurd hj (by simp)
          · rw [zpu_q _ _ _ (by decide)]; unfold plG; exact mp2
          · rw [zpu_s]
            show _ = (if plF S P.2 i = -4 then (if canS (plG S P.2 i) then -4 else nI i) else plF S P.2 i)
            by_cases e : plF S P.2 i = -4
            · rw [if_pos e]; first | (rw [if_pos c_50]; exact e) | (rw [if_neg c_50]; done) | exact absurd (by rw [e]; decide) c_59
            · rw [if_neg e]; first | done | exact absurd (z4 c_59) e
          · rw [zpu_q _ _ _ a0, f2.1 q a1]; exact g1 q a0 a1
          · rw [zpu_k _ _ _ hj, f2.1 93 (by decide)]; exact g2 j hj
          · rw [zpu_q _ _ _ (by decide), f2.2 j hj]; exact g3 j hj
        · refine Zp.iload_n k_171_62 rfl ?_
          refine Zp.goto k_171_63 ?_
          refine Zp.putI k_171_70 rfl (zlt rfl) m_93 ?_
          refine Zp.iinc (nI (_ + 1)) [some (.ref _), some (.int _), some (.int _)] k_171_73 rfl (nI_1 _) (Nat.lt_of_lt_of_eq (zlt rfl : 1 < 3) vl_171.symm) rfl ?_
          refine Zp.goto k_171_76 ?_
          refine Zp.locs [some (.ref 93), some (.int (nI (i + 1))), none] (fun j v hj => ?_) (ih (i + 1) _ (by omega) ?_ ?_ (fun q a0 a1 => ?_) (fun j hj => ?_) (fun j hj => ?_) none (fun _ => by simp))
          · match j, hj with
            | 0, hj => exact hj
            | 1, hj => exact hj
            | 2, hj => exact absurd hj (by simp)
            | _ + 3, hj => exact absurd hj (by simp)
          · rw [zpu_q _ _ _ (by decide)]; unfold plG; exact mp2
          · rw [zpu_s]
            show _ = (if plF S P.2 i = -4 then (if canS (plG S P.2 i) then -4 else nI i) else plF S P.2 i)
            by_cases e : plF S P.2 i = -4
            · rw [if_pos e]; first | (rw [if_pos c_50]; exact e) | (rw [if_neg c_50]; done) | exact absurd (by rw [e]; decide) c_59
            · rw [if_neg e]; first | done | exact absurd (z4 c_59) e
          · rw [zpu_q _ _ _ a0, f2.1 q a1]; exact g1 q a0 a1
          · rw [zpu_k _ _ _ hj, f2.1 93 (by decide)]; exact g2 j hj
          · rw [zpu_q _ _ _ (by decide), f2.2 j hj]; exact g3 j hj
  refine Zm.go [some (.ref _), none, none] vl_171 rfl ?_
  refine Zp.aload_n k_171_0 rfl ?_
  refine Zp.bipush (-4) k_171_1 (by decide) ?_
  refine Zp.putI k_171_3 rfl (zlt rfl) m_93 ?_
  refine Zp.iconst (nI 0) k_171_6 (by decide) ?_
  refine Zp.istore_n [some (.ref _), some (.int _), none] k_171_7 (Nat.lt_of_lt_of_eq (zlt rfl : 1 < 3) vl_171.symm) rfl ?_
  exact loop P.1 0 _ (by omega) (by rw [zpu_q _ _ _ (by decide)]; exact mp) (zpu_s _ _ _ _) (fun q a0 _ => zpu_q _ _ _ a0) (fun j hj => zpu_k _ _ _ hj) (fun j hj => by rw [zpu_q _ _ _ (by decide)]) none (fun _ => by simp)
theorem c_becomesM {k : Nat} {x : Int32} (hk : k < 58) (hq : Q (some (.int (I 94 k))) (zpu I 94 k x) L) : Zm G 177 [.ref 93, .int (nI k), .int x] I L Q := by
  refine Zm.go [some (.ref _), some (.int _), some (.int _), none] vl_177 rfl ?_
  refine Zp.aload_n k_177_0 rfl ?_
  refine Zp.getR k_177_1 rfl (zlt rfl) m_93 r_93_0 ?_
  refine Zp.iload_n k_177_4 rfl ?_
  refine Zp.iald _ k_177_5 m_94 rfl (by omega) (zlt rfl) rfl ?_
  refine Zp.istore_n [some (.ref _), some (.int _), some (.int _), some (.int _)] k_177_6 (Nat.lt_of_lt_of_eq (zlt rfl : 3 < 4) vl_177.symm) rfl ?_
  refine Zp.aload_n k_177_7 rfl ?_
  refine Zp.getR k_177_8 rfl (zlt rfl) m_93 r_93_0 ?_
  refine Zp.iload_n k_177_11 rfl ?_
  refine Zp.iload_n k_177_12 rfl ?_
  refine Zp.iast _ k_177_13 m_94 rfl (by omega) (zlt rfl) ?_
  refine Zp.iload_n k_177_14 rfl ?_
  refine Zp.iret _ k_177_15 vr_177 rfl ?_
  exact hq
end MODEL
