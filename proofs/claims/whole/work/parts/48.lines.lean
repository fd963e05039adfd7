/-! THE TEXT: the class's lines -/
/-- the class's draft -/
def DC (I : zI) (D : zD) : Prop := Kp I 16 (dK D) ∧ I 15 5 = dw D ∧ I 15 6 = nI (dp D) ∧ (I 15 7).toInt = (dh D : Int) - 1
def FrD (I I' : zI) : Prop := (∀ q, q < 15 ∨ 29 < q → I' q = I q) ∧ (∀ j, j ≠ 2 → j ≠ 3 → I' 29 j = I 29 j) ∧ I' 15 1 = I 15 1
theorem FrY.d {I I' : zI} (h : FrY I I') : FrD I I' := ⟨fun q hq => h.1 q (by omega) (by omega), h.2.1, h.2.2 1 (by decide) (by decide) (by decide)⟩
theorem FrD.tr {I J K : zI} (h : FrD I J) (k : FrD J K) : FrD I K := ⟨fun q a => (k.1 q a).trans (h.1 q a), fun j a b => (k.2.1 j a b).trans (h.2.1 j a b), k.2.2.trans h.2.2⟩
theorem Tp.d {I I' : zI} {T : zTp} (h : Tp I T) (f : FrD I I') : Tp I' T := ⟨(f.2.1 1 (by decide) (by decide)).trans h.1, by rw [f.1 30 (by omega)]; exact h.2⟩
theorem DC.y {I I' : zI} {D : zD} {m : Nat} (h : DC I D) (f : FrY I I') (h7 : (I' 15 7).toInt = (m : Int) - 1) : DC I' (dK D, dw D, dp D, m) := ⟨h.1.fr fun q a b => f.1 q (by omega) (by omega), (f.2.2 5 (by decide) (by decide) (by decide)).trans h.2.1, (f.2.2 6 (by decide) (by decide) (by decide)).trans h.2.2.1, h7⟩
theorem DC.x {I I' : zI} {D : zD} (h : DC I D) (f : FrX I I') : DC I' D := ⟨h.1.fr fun q a b => f.1 q (by omega) (by omega), (f.2.2 5 (by decide) (by decide)).trans h.2.1, (f.2.2 6 (by decide) (by decide)).trans h.2.2.1, by rw [f.2.2 7 (by decide) (by decide)]; exact h.2.2.2⟩
/-- the draft's soup has changed -/
theorem DC.soup {I I' : zI} {D : zD} {S : zSo} (h : DC I D) (hs : Sp I' 17 S) (e : ∀ q, q ≠ 17 → q ≠ 18 → q ≠ 19 → I' q = I q) : DC I' ((S, (dK D).2), dw D, dp D, dh D) := ⟨h.1.uS hs fun q a b => e q (by omega) (by omega) (by omega), by rw [e 15 (by decide) (by decide) (by decide)]; exact h.2.1, by rw [e 15 (by decide) (by decide) (by decide)]; exact h.2.2.1, by rw [e 15 (by decide) (by decide) (by decide)]; exact h.2.2.2⟩
theorem FrD.soup {I I' : zI} (e : ∀ q, q ≠ 17 → q ≠ 18 → q ≠ 19 → I' q = I q) : FrD I I' := ⟨fun q hq => e q (by omega) (by omega) (by omega), fun j _ _ => by rw [e 29 (by decide) (by decide) (by decide)], by rw [e 15 (by decide) (by decide) (by decide)]⟩
/-- and the fault stays as it is -/
def FrO (I I' : zI) : Prop := FrD I I' ∧ I' 15 2 = I 15 2
theorem FrO.tr {I J K : zI} (h : FrO I J) (k : FrO J K) : FrO I K := ⟨h.1.tr k.1, k.2.trans h.2⟩
theorem FrO.soup {I I' : zI} (e : ∀ q, q ≠ 17 → q ≠ 18 → q ≠ 19 → I' q = I q) : FrO I I' := ⟨FrD.soup e, by rw [e 15 (by decide) (by decide) (by decide)]⟩
theorem FrX.o {I I' : zI} (h : FrX I I') (e : I' 15 = I 15) : FrO I I' := ⟨h.y.d, by rw [e]⟩
section LINES
variable {G : zG} {I : zI} {L : zJ} {Q : zP} {T : zTp} {D : zD} {p s : Nat}
theorem c_addHelperC {k : Nat} (dc : DC I D) (do_ : Do D) (h2 : I 29 2 = nI s) (hk : k ≤ 3)
    (hbad : ∀ c s' I', hlpS s D k p = .inl (c, s') → I' 15 2 = nI c → I' 15 3 = nI s' → FrD I I' → Q (some (.int (nI 0))) I' L)
    (hok : ∀ I', hlpS s D k p = .inr (hlpD D k, p) → DC I' (hlpD D k) → I' 29 = I 29 → FrO I I' → Q (some (.int (nI 1))) I' L) : Zm G 17 [.ref 15, .int (nI k)] I L Q := by
  obtain ⟨⟨q1, q2, q3, q4, q5, q6, q7⟩, d2, d3, d4, d5, d6, d7, d8, d9⟩ := id do_
  have bad : ∀ I2, I2 15 2 = nI 5 → I2 15 3 = nI s → FrX I I2 → 5 ≤ sn (kS (dK D)) → Zp G 17 19 [some (.ref 15), some (.int (nI k))] [.int (nI 0)] I2 L Q := by
    intro I2 a b f2 hf
    refine Zp.iret _ k_17_19 vr_17 rfl ?_
    exact hbad 5 s I2 (if_pos hf) a b f2.y.d
  refine Zm.go [some (.ref _), some (.int _)] vl_17 rfl ?_
  refine Zp.aload_n k_17_0 rfl ?_
  refine Zp.getR k_17_1 rfl (zlt rfl) m_15 r_15_0 ?_
  refine Zp.getR k_17_4 rfl (zlt rfl) m_16 r_16_0 ?_
  refine Zp.getV k_17_7 rfl (zlt rfl) m_17 dc.1.1.1 ?_
  refine Zp.iconst (nI 5) k_17_10 (by decide) ?_
  refine Zp.icmp_ltN k_17_11 (by omega) (by omega) (fun c_11 => ?_) (fun c_11 => ?_)
  · refine Zp.aload_n k_17_20 rfl ?_
    refine Zp.getR k_17_21 rfl (zlt rfl) m_15 r_15_0 ?_
    refine Zp.getR k_17_24 rfl (zlt rfl) m_16 r_16_0 ?_
    refine Zp.getR k_17_27 rfl (zlt rfl) m_17 r_17_6 ?_
    refine Zp.aload_n k_17_30 rfl ?_
    refine Zp.getR k_17_31 rfl (zlt rfl) m_15 r_15_0 ?_
    refine Zp.getR k_17_34 rfl (zlt rfl) m_16 r_16_0 ?_
    refine Zp.getV k_17_37 rfl (zlt rfl) m_17 dc.1.1.1 ?_
    refine Zp.iload_n k_17_40 rfl ?_
    refine Zp.iast _ k_17_41 m_18 rfl (by omega) (zlt rfl) ?_
    refine Zp.aload_n k_17_42 rfl ?_
    refine Zp.getR k_17_43 rfl (zlt rfl) m_15 r_15_0 ?_
    refine Zp.getR k_17_46 rfl (zlt rfl) m_16 r_16_0 ?_
    refine Zp.dup k_17_49 rfl ?_
    refine Zp.getV k_17_50 rfl (zlt rfl) m_17 ((congrFun (zpu_q I _ _ (by decide)) _).trans dc.1.1.1) ?_
    refine Zp.iconst (nI 1) k_17_53 (by decide) ?_
    refine Zp.iaddN k_17_54 ?_
    refine Zp.putI k_17_55 rfl (zlt rfl) m_17 ?_
    refine Zp.iconst (nI 1) k_17_58 (by decide) ?_
    refine Zp.iret _ k_17_59 vr_17 rfl ?_
    have hs : Sp (zpu (zpu I 18 (sn (kS (dK D))) (nI k)) 17 0 (nI (sn (kS (dK D)) + 1))) 17 (kS (dK (hlpD D k))) := by
      obtain ⟨p0, p1, p2, p3, p4, p5, p6, p7⟩ := dc.1.1
      refine ⟨zpu_s _ _ _ _, by rw [zpu_k _ _ _ (by decide), zpu_q _ _ _ (by decide)]; exact p1, by rw [zpu_k _ _ _ (by decide), zpu_q _ _ _ (by decide)]; exact p2, by rw [zpu_k _ _ _ (by decide), zpu_q _ _ _ (by decide)]; exact p3, by rw [zpu_k _ _ _ (by decide), zpu_q _ _ _ (by decide)]; exact p4, by rw [zpu_k _ _ _ (by decide), zpu_q _ _ _ (by decide)]; exact p5, fun a ha => ?_, fun j hj => by rw [zpu_q _ _ _ (by decide), zpu_q _ _ _ (by decide)]; exact p7 j hj⟩
      have ha2 : a < sn (kS (dK D)) + 1 := ha
      show _ = nI (va_up (skd (kS (dK D))) (sn (kS (dK D))) k a)
      rw [zpu_q _ _ _ (by decide)]
      by_cases e : a = sn (kS (dK D))
      · subst e; rw [zpu_s, va_up_s]
      · rw [zpu_k _ _ _ e, va_up_n _ _ e]; exact p6 a (by omega)
    have e : ∀ q, q ≠ 17 → q ≠ 18 → q ≠ 19 → zpu (zpu I 18 (sn (kS (dK D))) (nI k)) 17 0 (nI (sn (kS (dK D)) + 1)) q = I q := fun q a b c => by rw [zpu_q _ _ _ a, zpu_q _ _ _ b]
    exact hok _ (if_neg (by omega)) (dc.soup hs e) (e 29 (by decide) (by decide) (by decide)) (FrO.soup e)
  · refine Zp.aload_n k_17_14 rfl ?_
    refine Zp.iconst (nI 5) k_17_15 (by decide) ?_
    refine Zp.callv1I v_25 k_17_16 m_15 (Nat.le_of_ble_eq_true rfl) (Nat.le_of_ble_eq_true rfl) (c_fails h2 (fun I2 a b f2 => ⟨_, rfl, bad I2 a b f2 (by omega)⟩))
    
theorem c_readPotC (dc : DC I D) (do_ : Do D) (tp : Tp I T) (to : To T) (hp : p ≤ T.1) (h2 : I 29 2 = nI s) (h3 : I 29 3 = nI p)
    (hbad : ∀ c s' I', potS T s D p = .inl (c, s') → I' 15 2 = nI c → I' 15 3 = nI s' → FrD I I' → Q (some (.int (nI 0))) I' L)
    (hok : ∀ D' p' I', potS T s D p = .inr (D', p') → DC I' D' → I' 29 3 = nI p' → FrO I I' → Q (some (.int (nI 1))) I' L) : Zm G 19 [.ref 15] I L Q := by
  obtain ⟨d1, d2, d3, d4, d5, d6, d7, d8, d9⟩ := id do_
  have bad1 : ∀ I2, I2 15 2 = nI 4 → I2 15 3 = nI s → FrX I I2 → dp D = 1 → Zp G 19 12 [some (.ref 15), none, none] [.int (nI 0)] I2 L Q := by
    intro I2 a b f2 hf
    refine Zp.iret _ k_19_12 vr_19 rfl ?_
    exact hbad 4 s I2 (if_pos hf) a b f2.y.d
  have fx0 : FrO I (zpu I 15 6 (nI 1)) := ⟨⟨fun q hq => zpu_q _ _ _ (by omega), fun j _ _ => by rw [zpu_q _ _ _ (by decide)], by rw [zpu_k _ _ _ (by decide)]⟩, by rw [zpu_k _ _ _ (by decide)]⟩
  have bad2 : ∀ c s' I2 (n1 : Int32), potS T s D p = .inl (c, s') → I2 15 2 = nI c → I2 15 3 = nI s' → FrD I I2 → Zp G 19 41 [some (.ref 15), some (.int n1), none] [.int (-1)] I2 L Q := by
    intro c s' I2 n1 he a b f2
    refine Zp.istore_n [some (.ref _), some (.int _), some (.int _)] k_19_41 (Nat.lt_of_lt_of_eq (zlt rfl : 2 < 3) vl_19.symm) rfl ?_
    refine Zp.iload_n k_19_42 rfl ?_
    refine Zp.if_geZ (-1) k_19_43 (by decide) (fun c_43 => absurd c_43 (by omega)) (fun c_43 => ?_)
    refine Zp.iconst (nI 0) k_19_46 (by decide) ?_
    refine Zp.iret _ k_19_47 vr_19 rfl ?_
    exact hbad c s' I2 he a b f2
  have bad3 : ∀ c s' I2, ¬ dp D = 1 → rdN T 1 99 p = .inl (c, s') → I2 15 2 = nI c → I2 15 3 = nI s' → FrX (zpu I 15 6 (nI 1)) I2 → Zp G 19 25 [some (.ref 15), none, none] [.int (-1)] I2 L Q := by
    intro c s' I2 hf hr a b f2
    have he : potS T s D p = .inl (c, s') := (if_neg hf).trans (sbd_l hr)
    refine Zp.istore_n [some (.ref _), some (.int _), none] k_19_25 (Nat.lt_of_lt_of_eq (zlt rfl : 1 < 3) vl_19.symm) rfl ?_
    refine Zp.iload_n k_19_26 rfl ?_
    refine Zp.if_geZ (-1) k_19_27 (by decide) (fun c_27 => absurd c_27 (by omega)) (fun c_27 => ?_)
    refine Zp.iconst (-1) k_19_30 (by decide) ?_
    refine Zp.goto k_19_31 ?_
    exact bad2 c s' I2 _ he a b (fx0.1.tr f2.y.d)
  have ok2 : ∀ n1 n2 p1 p2 I2, ¬ dp D = 1 → rdN T 1 99 p = .inr (n1, p1) → rdN T 1 12 p1 = .inr (n2, p2) → n1 ≤ 99 → n2 ≤ 12 → I2 29 3 = nI p2 → DC I2 (dK D, dw D, 1, dh D) → FrO I I2 → Zp G 19 41 [some (.ref 15), some (.int (nI n1)), none] [.int (nI n2)] I2 L Q := by
    intro n1 n2 p1 p2 I2 hf hr1 hr2 hn1 hn2 g3 dc2 f2
    have he : potS T s D p = .inr (potD D n1 n2, p2) := (if_neg hf).trans ((sbd_r hr1).trans (sbd_r hr2))
    refine Zp.istore_n [some (.ref _), some (.int _), some (.int _)] k_19_41 (Nat.lt_of_lt_of_eq (zlt rfl : 2 < 3) vl_19.symm) rfl ?_
    refine Zp.iload_n k_19_42 rfl ?_
    refine Zp.if_geN k_19_43 (by omega) ?_
    refine Zp.aload_n k_19_48 rfl ?_
    refine Zp.getR k_19_49 rfl (zlt rfl) m_15 r_15_0 ?_
    refine Zp.getR k_19_52 rfl (zlt rfl) m_16 r_16_0 ?_
    refine Zp.iload_n k_19_55 rfl ?_
    refine Zp.putI k_19_56 rfl (zlt rfl) m_17 ?_
    refine Zp.aload_n k_19_59 rfl ?_
    refine Zp.getR k_19_60 rfl (zlt rfl) m_15 r_15_0 ?_
    refine Zp.getR k_19_63 rfl (zlt rfl) m_16 r_16_0 ?_
    refine Zp.iload_n k_19_66 rfl ?_
    refine Zp.putI k_19_67 rfl (zlt rfl) m_17 ?_
    refine Zp.iconst (nI 1) k_19_70 (by decide) ?_
    refine Zp.iret _ k_19_71 vr_19 rfl ?_
    have e : ∀ q, q ≠ 17 → q ≠ 18 → q ≠ 19 → zpu (zpu I2 17 1 (nI n1)) 17 2 (nI n2) q = I2 q := fun q a b c => by rw [zpu_q _ _ _ a, zpu_q _ _ _ a]
    exact hok _ p2 _ he (dc2.soup ((dc2.1.1.uneed).unoon) e) (by rw [e 29 (by decide) (by decide) (by decide)]; exact g3) (f2.tr (FrO.soup e))
  have ok1 : ∀ n1 p1 I2, ¬ dp D = 1 → rdN T 1 99 p = .inr (n1, p1) → I2 29 3 = nI p1 → FrX (zpu I 15 6 (nI 1)) I2 → I2 15 = zpu I 15 6 (nI 1) 15 → Zp G 19 25 [some (.ref 15), none, none] [.int (nI n1)] I2 L Q := by
    intro n1 p1 I2 hf hr g3 f2 e15
    obtain ⟨r1, r2, r3, r4, r5⟩ := rdN_ok hp hr
    have dc0 : DC (zpu I 15 6 (nI 1)) (dK D, dw D, 1, dh D) := ⟨dc.1.fr fun q a b => zpu_q _ _ _ (by omega), by rw [zpu_k _ _ _ (by decide)]; exact dc.2.1, zpu_s _ _ _ _, by rw [zpu_k _ _ _ (by decide)]; exact dc.2.2.2⟩
    have fd : FrO I I2 := fx0.tr (f2.o e15)
    have tp2 := tp.d fd.1
    refine Zp.istore_n [some (.ref _), some (.int _), none] k_19_25 (Nat.lt_of_lt_of_eq (zlt rfl : 1 < 3) vl_19.symm) rfl ?_
    refine Zp.iload_n k_19_26 rfl ?_
    refine Zp.if_geN k_19_27 (by omega) ?_
    refine Zp.aload_n k_19_34 rfl ?_
    refine Zp.iconst (nI 1) k_19_35 (by decide) ?_
    refine Zp.bipush (nI 12) k_19_36 (by decide) ?_
    refine Zp.callv2I v_23 k_19_38 m_15 (Nat.le_of_ble_eq_true rfl) (Nat.le_of_ble_eq_true rfl) (c_readNumberC tp2 to r4 g3 (by decide) (by decide) (fun c s' I3 hr2 a b f3 => ⟨_, rfl, bad2 c s' I3 _ ((if_neg hf).trans ((sbd_r hr).trans (sbd_l hr2))) a b (fd.1.tr f3.y.d)⟩) (fun n2 p2 I3 hr2 _ h3' f3 e3 => ⟨_, rfl, ok2 n1 n2 p1 p2 I3 hf hr hr2 r2 (rdN_ok r4 hr2).2.1 h3' ((dc0.x f2).x f3) (fd.tr (f3.o e3))⟩))
    
  refine Zm.go [some (.ref _), none, none] vl_19 rfl ?_
  refine Zp.aload_n k_19_0 rfl ?_
  refine Zp.getV k_19_1 rfl (zlt rfl) m_15 dc.2.2.1 ?_
  refine Zp.if_eqN k_19_4 (by omega) (fun c_4 => ?_) (fun c_4 => ?_)
  · refine Zp.aload_n k_19_13 rfl ?_
    refine Zp.iconst (nI 1) k_19_14 (by decide) ?_
    refine Zp.putZ k_19_15 rfl (zlt rfl) (by decide) m_15 ?_
    refine Zp.aload_n k_19_18 rfl ?_
    refine Zp.iconst (nI 1) k_19_19 (by decide) ?_
    refine Zp.bipush (nI 99) k_19_20 (by decide) ?_
    refine Zp.callv2I v_23 k_19_22 m_15 (Nat.le_of_ble_eq_true rfl) (Nat.le_of_ble_eq_true rfl) (c_readNumberC (tp.d fx0.1) to hp (by rw [zpu_q _ _ _ (by decide)]; exact h3) (by decide) (by decide) (fun c s' I2 hr a b f2 => ⟨_, rfl, bad3 c s' I2 (by omega) hr a b f2⟩) (fun n1 p1 I2 hr _ g3 f2 e2 => ⟨_, rfl, ok1 n1 p1 I2 (by omega) hr g3 f2 e2⟩))
    
  · refine Zp.aload_n k_19_7 rfl ?_
    refine Zp.iconst (nI 4) k_19_8 (by decide) ?_
    refine Zp.callv1I v_25 k_19_9 m_15 (Nat.le_of_ble_eq_true rfl) (Nat.le_of_ble_eq_true rfl) (c_fails h2 (fun I2 a b f2 => ⟨_, rfl, bad1 I2 a b f2 (by omega)⟩))
    
/-- a helper and another one, as the class reads them for slips and plans -/
theorem c_readSlipC (dc : DC I D) (do_ : Do D) (tp : Tp I T) (to : To T) (hp : p ≤ T.1) (h2 : I 29 2 = nI s) (h3 : I 29 3 = nI p)
    (hbad : ∀ c s' I', slpS T s D p = .inl (c, s') → I' 15 2 = nI c → I' 15 3 = nI s' → FrD I I' → Q (some (.int (nI 0))) I' L)
    (hok : ∀ D' p' I', slpS T s D p = .inr (D', p') → DC I' D' → I' 29 3 = nI p' → FrO I I' → Q (some (.int (nI 1))) I' L) : Zm G 20 [.ref 15] I L Q := by
  obtain ⟨d1, d2, d3, d4, d5, d6, d7, d8, d9⟩ := id do_
  have bad1 : ∀ I2, I2 15 2 = nI 5 → I2 15 3 = nI s → FrX I I2 → 6 ≤ lc (kP (dK D)) → Zp G 20 18 [some (.ref 15), none, none, none] [.int (nI 0)] I2 L Q := by
    intro I2 a b f2 hf
    refine Zp.iret _ k_20_18 vr_20 rfl ?_
    exact hbad 5 s I2 (if_pos hf) a b f2.y.d
  have bad4 : ∀ c s' I2 (x1 x2 : Int32), slpS T s D p = .inl (c, s') → I2 15 2 = nI c → I2 15 3 = nI s' → FrD I I2 → Zp G 20 54 [some (.ref 15), some (.int x1), some (.int x2), none] [.int (-1)] I2 L Q := by
    intro c s' I2 x1 x2 he a b f2
    refine Zp.istore_n [some (.ref _), some (.int _), some (.int _), some (.int _)] k_20_54 (Nat.lt_of_lt_of_eq (zlt rfl : 3 < 4) vl_20.symm) rfl ?_
    refine Zp.iload_n k_20_55 rfl ?_
    refine Zp.if_geZ (-1) k_20_56 (by decide) (fun c_56 => absurd c_56 (by omega)) (fun c_56 => ?_)
    refine Zp.iconst (nI 0) k_20_59 (by decide) ?_
    refine Zp.iret _ k_20_60 vr_20 rfl ?_
    exact hbad c s' I2 he a b f2
  have bad3 : ∀ c s' I2 (x1 : Int32), slpS T s D p = .inl (c, s') → I2 15 2 = nI c → I2 15 3 = nI s' → FrD I I2 → Zp G 20 38 [some (.ref 15), some (.int x1), none, none] [.int (-1)] I2 L Q := by
    intro c s' I2 x1 he a b f2
    refine Zp.istore_n [some (.ref _), some (.int _), some (.int _), none] k_20_38 (Nat.lt_of_lt_of_eq (zlt rfl : 2 < 4) vl_20.symm) rfl ?_
    refine Zp.iload_n k_20_39 rfl ?_
    refine Zp.if_geZ (-1) k_20_40 (by decide) (fun c_40 => absurd c_40 (by omega)) (fun c_40 => ?_)
    refine Zp.iconst (-1) k_20_43 (by decide) ?_
    refine Zp.goto k_20_44 ?_
    exact bad4 c s' I2 _ _ he a b f2
  have bad2 : ∀ c s' I2, slpS T s D p = .inl (c, s') → I2 15 2 = nI c → I2 15 3 = nI s' → FrD I I2 → Zp G 20 24 [some (.ref 15), none, none, none] [.int (-1)] I2 L Q := by
    intro c s' I2 he a b f2
    refine Zp.istore_n [some (.ref _), some (.int _), none, none] k_20_24 (Nat.lt_of_lt_of_eq (zlt rfl : 1 < 4) vl_20.symm) rfl ?_
    refine Zp.iload_n k_20_25 rfl ?_
    refine Zp.if_geZ (-1) k_20_26 (by decide) (fun c_26 => absurd c_26 (by omega)) (fun c_26 => ?_)
    refine Zp.iconst (-1) k_20_29 (by decide) ?_
    refine Zp.goto k_20_30 ?_
    exact bad3 c s' I2 _ he a b f2
  have ok3 : ∀ a b c p3 I2, slpS T s D p = .inr (slpD D a b c, p3) → c ≤ 9 → ¬ 6 ≤ lc (kP (dK D)) → I2 29 3 = nI p3 → DC I2 (dK D, dw D, dp D, max (max (dh D) (a + 1)) (b + 1)) → FrO I I2 → Zp G 20 54 [some (.ref 15), some (.int (nI a)), some (.int (nI b)), none] [.int (nI c)] I2 L Q := by
    intro a b c p3 I2 he hc9 hf g3 dc2 f2
    refine Zp.istore_n [some (.ref _), some (.int _), some (.int _), some (.int _)] k_20_54 (Nat.lt_of_lt_of_eq (zlt rfl : 3 < 4) vl_20.symm) rfl ?_
    refine Zp.iload_n k_20_55 rfl ?_
    refine Zp.if_geN k_20_56 (by omega) ?_
    refine Zp.aload_n k_20_61 rfl ?_
    refine Zp.getR k_20_62 rfl (zlt rfl) m_15 r_15_0 ?_
    refine Zp.getR k_20_65 rfl (zlt rfl) m_16 r_16_1 ?_
    refine Zp.iload_n k_20_68 rfl ?_
    refine Zp.iload_n k_20_69 rfl ?_
    refine Zp.iload_n k_20_70 rfl ?_
    refine Zp.callv3V v_52 k_20_71 m_20 (Nat.le_of_ble_eq_true rfl) (Nat.le_of_ble_eq_true rfl) (c_Slips_add la_20 dc2.1.2.1 (by show lc (kP (dK D)) < 6; omega) (fun I3 lp3 f3 => ⟨rfl, ?_⟩))
    refine Zp.iconst (nI 1) k_20_74 (by decide) ?_
    refine Zp.iret _ k_20_75 vr_20 rfl ?_
    have f23 : FrO I2 I3 := ⟨⟨fun q hq => f3 q (by omega) (by omega) (by omega) (by omega), fun j _ _ => by rw [f3 29 (by decide) (by decide) (by decide) (by decide)], by rw [f3 15 (by decide) (by decide) (by decide) (by decide)]⟩, by rw [f3 15 (by decide) (by decide) (by decide) (by decide)]⟩
    have dc3 : DC I3 (slpD D a b c) := ⟨⟨dc2.1.1.fr (f3 _ (by decide) (by decide) (by decide) (by decide)) (f3 _ (by decide) (by decide) (by decide) (by decide)) (f3 _ (by decide) (by decide) (by decide) (by decide)), lp3, dc2.1.2.2.1.fr (f3 _ (by decide) (by decide) (by decide) (by decide)) (f3 _ (by decide) (by decide) (by decide) (by decide)), dc2.1.2.2.2.fr (f3 _ (by decide) (by decide) (by decide) (by decide)) (f3 _ (by decide) (by decide) (by decide) (by decide)) (f3 _ (by decide) (by decide) (by decide) (by decide))⟩, by rw [f3 15 (by decide) (by decide) (by decide) (by decide)]; exact dc2.2.1, by rw [f3 15 (by decide) (by decide) (by decide) (by decide)]; exact dc2.2.2.1, by rw [f3 15 (by decide) (by decide) (by decide) (by decide)]; exact dc2.2.2.2⟩
    exact hok _ p3 I3 he dc3 (by rw [f3 29 (by decide) (by decide) (by decide) (by decide)]; exact g3) (f2.tr f23)
  have ok2 : ∀ a b p1 p2 I2, ¬ 6 ≤ lc (kP (dK D)) → rdH T (-1) p = .inr (a, p1) → rdH T a p1 = .inr (b, p2) → p2 ≤ T.1 → b ≤ 4 → a ≤ 4 → I2 29 3 = nI p2 → DC I2 (dK D, dw D, dp D, max (max (dh D) (a + 1)) (b + 1)) → FrO I I2 → Zp G 20 38 [some (.ref 15), some (.int (nI a)), none, none] [.int (nI b)] I2 L Q := by
    intro a b p1 p2 I2 hf hr1 hr2 hp2 hb4 ha4 g3 dc2 f2
    refine Zp.istore_n [some (.ref _), some (.int _), some (.int _), none] k_20_38 (Nat.lt_of_lt_of_eq (zlt rfl : 2 < 4) vl_20.symm) rfl ?_
    refine Zp.iload_n k_20_39 rfl ?_
    refine Zp.if_geN k_20_40 (by omega) ?_
    refine Zp.aload_n k_20_47 rfl ?_
    refine Zp.iconst (nI 1) k_20_48 (by decide) ?_
    refine Zp.bipush (nI 9) k_20_49 (by decide) ?_
    refine Zp.callv2I v_23 k_20_51 m_15 (Nat.le_of_ble_eq_true rfl) (Nat.le_of_ble_eq_true rfl) (c_readNumberC (tp.d f2.1) to hp2 g3 (by decide) (by decide) (fun c s' I3 hr3 x y f3 => ⟨_, rfl, bad4 c s' I3 _ _ ((if_neg hf).trans ((sbd_r hr1).trans ((sbd_r hr2).trans (sbd_l hr3)))) x y (f2.1.tr f3.y.d)⟩) (fun c p3 I3 hr3 _ h3' f3 e3 => ⟨_, rfl, ok3 a b c p3 I3 ((if_neg hf).trans ((sbd_r hr1).trans ((sbd_r hr2).trans (sbd_r hr3)))) (rdN_ok hp2 hr3).2.1 hf h3' (dc2.x f3) (f2.tr (f3.o e3))⟩))
    
  have ok1 : ∀ a p1 I2, ¬ 6 ≤ lc (kP (dK D)) → rdH T (-1) p = .inr (a, p1) → I2 29 3 = nI p1 → (I2 15 7).toInt = ((max (dh D) (a + 1) : Nat) : Int) - 1 → FrY I I2 → I2 15 2 = I 15 2 → Zp G 20 24 [some (.ref 15), none, none, none] [.int (nI a)] I2 L Q := by
    intro a p1 I2 hf hr1 g3 g7 f2 e2
    obtain ⟨r1, r2, r3, r4, r5⟩ := rdH_ok hp hr1
    have ea : (nI a).toInt = (a : Int) := nI_toInt (by omega)
    refine Zp.istore_n [some (.ref _), some (.int _), none, none] k_20_24 (Nat.lt_of_lt_of_eq (zlt rfl : 1 < 4) vl_20.symm) rfl ?_
    refine Zp.iload_n k_20_25 rfl ?_
    refine Zp.if_geN k_20_26 (by omega) ?_
    refine Zp.aload_n k_20_33 rfl ?_
    refine Zp.iload_n k_20_34 rfl ?_
    refine Zp.callv1I v_22 k_20_35 m_15 (Nat.le_of_ble_eq_true rfl) (Nat.le_of_ble_eq_true rfl) (c_readHelperC (tp.y f2) to r3 g3 g7 (by omega) (fun c s' I3 hr2 x y f3 => ⟨_, rfl, bad3 c s' I3 _ ((if_neg hf).trans ((sbd_r hr1).trans (sbd_l (by rw [ea] at hr2; exact hr2)))) x y (f2.tr f3).d⟩) (fun b p2 I3 hr2 _ h3' h7' f3 e3 => ⟨_, rfl, ok2 a b p1 p2 I3 hf hr1 (by rw [ea] at hr2; exact hr2) (rdH_ok r3 hr2).2.2.1 (rdH_ok r3 hr2).1 r1 h3' (dc.y (f2.tr f3) h7') ⟨(f2.tr f3).d, e3.trans e2⟩⟩))
    
  refine Zm.go [some (.ref _), none, none, none] vl_20 rfl ?_
  refine Zp.aload_n k_20_0 rfl ?_
  refine Zp.getR k_20_1 rfl (zlt rfl) m_15 r_15_0 ?_
  refine Zp.getR k_20_4 rfl (zlt rfl) m_16 r_16_1 ?_
  refine Zp.callv0I v_51 k_20_7 m_20 (Nat.le_of_ble_eq_true rfl) (Nat.le_of_ble_eq_true rfl) (c_Slips_isFull la_20 dc.1.2.1 d4 ⟨_, rfl, ?_⟩)
  refine Zp.if_eqB k_20_10 (fun c_10 => ?_) (fun c_10 => ?_)
  · refine Zp.aload_n k_20_19 rfl ?_
    refine Zp.iconst (-1) k_20_20 (by decide) ?_
    refine Zp.callv1I v_22 k_20_21 m_15 (Nat.le_of_ble_eq_true rfl) (Nat.le_of_ble_eq_true rfl) (c_readHelperC tp to hp h3 dc.2.2.2 d8 (fun c s' I2 hr x y f2 => ⟨_, rfl, bad2 c s' I2 ((if_neg (by omega)).trans (sbd_l hr)) x y f2.d⟩) (fun a p1 I2 hr _ g3 g7 f2 e2 => ⟨_, rfl, ok1 a p1 I2 (by omega) hr g3 g7 f2 e2⟩))
    
  · refine Zp.aload_n k_20_13 rfl ?_
    refine Zp.iconst (nI 5) k_20_14 (by decide) ?_
    refine Zp.callv1I v_25 k_20_15 m_15 (Nat.le_of_ble_eq_true rfl) (Nat.le_of_ble_eq_true rfl) (c_fails h2 (fun I2 a b f2 => ⟨_, rfl, bad1 I2 a b f2 (by omega)⟩))
    
theorem c_readPlanC (dc : DC I D) (do_ : Do D) (tp : Tp I T) (to : To T) (hp : p ≤ T.1) (h2 : I 29 2 = nI s) (h3 : I 29 3 = nI p)
    (hbad : ∀ c s' I', plnS T s D p = .inl (c, s') → I' 15 2 = nI c → I' 15 3 = nI s' → FrD I I' → Q (some (.int (nI 0))) I' L)
    (hok : ∀ D' p' I', plnS T s D p = .inr (D', p') → DC I' D' → I' 29 3 = nI p' → FrO I I' → Q (some (.int (nI 1))) I' L) : Zm G 21 [.ref 15] I L Q := by
  obtain ⟨d1, d2, d3, d4, d5, d6, d7, d8, d9⟩ := id do_
  have bad1 : ∀ I2, I2 15 2 = nI 5 → I2 15 3 = nI s → FrX I I2 → 8 ≤ (kU (dK D)).1 → Zp G 21 18 [some (.ref 15), none, none] [.int (nI 0)] I2 L Q := by
    intro I2 a b f2 hf
    refine Zp.iret _ k_21_18 vr_21 rfl ?_
    exact hbad 5 s I2 (if_pos hf) a b f2.y.d
  have bad3 : ∀ c s' I2 (x1 : Int32), plnS T s D p = .inl (c, s') → I2 15 2 = nI c → I2 15 3 = nI s' → FrD I I2 → Zp G 21 38 [some (.ref 15), some (.int x1), none] [.int (-1)] I2 L Q := by
    intro c s' I2 x1 he a b f2
    refine Zp.istore_n [some (.ref _), some (.int _), some (.int _)] k_21_38 (Nat.lt_of_lt_of_eq (zlt rfl : 2 < 3) vl_21.symm) rfl ?_
    refine Zp.iload_n k_21_39 rfl ?_
    refine Zp.if_geZ (-1) k_21_40 (by decide) (fun c_40 => absurd c_40 (by omega)) (fun c_40 => ?_)
    refine Zp.iconst (nI 0) k_21_43 (by decide) ?_
    refine Zp.iret _ k_21_44 vr_21 rfl ?_
    exact hbad c s' I2 he a b f2
  have bad2 : ∀ c s' I2, plnS T s D p = .inl (c, s') → I2 15 2 = nI c → I2 15 3 = nI s' → FrD I I2 → Zp G 21 24 [some (.ref 15), none, none] [.int (-1)] I2 L Q := by
    intro c s' I2 he a b f2
    refine Zp.istore_n [some (.ref _), some (.int _), none] k_21_24 (Nat.lt_of_lt_of_eq (zlt rfl : 1 < 3) vl_21.symm) rfl ?_
    refine Zp.iload_n k_21_25 rfl ?_
    refine Zp.if_geZ (-1) k_21_26 (by decide) (fun c_26 => absurd c_26 (by omega)) (fun c_26 => ?_)
    refine Zp.iconst (-1) k_21_29 (by decide) ?_
    refine Zp.goto k_21_30 ?_
    exact bad3 c s' I2 _ he a b f2
  have ok2 : ∀ a b p1 p2 I2, ¬ 8 ≤ (kU (dK D)).1 → rdH T (-1) p = .inr (a, p1) → rdH T a p1 = .inr (b, p2) → b ≤ 4 → a ≤ 4 → I2 29 3 = nI p2 → DC I2 (dK D, dw D, dp D, max (max (dh D) (a + 1)) (b + 1)) → FrO I I2 → Zp G 21 38 [some (.ref 15), some (.int (nI a)), none] [.int (nI b)] I2 L Q := by
    intro a b p1 p2 I2 hf hr1 hr2 hb4 ha4 g3 dc2 f2
    have he : plnS T s D p = .inr (plnD D a b, p2) := (if_neg hf).trans ((sbd_r hr1).trans (sbd_r hr2))
    refine Zp.istore_n [some (.ref _), some (.int _), some (.int _)] k_21_38 (Nat.lt_of_lt_of_eq (zlt rfl : 2 < 3) vl_21.symm) rfl ?_
    refine Zp.iload_n k_21_39 rfl ?_
    refine Zp.if_geN k_21_40 (by omega) ?_
    refine Zp.aload_n k_21_45 rfl ?_
    refine Zp.getR k_21_46 rfl (zlt rfl) m_15 r_15_0 ?_
    refine Zp.getR k_21_49 rfl (zlt rfl) m_16 r_16_2 ?_
    refine Zp.iload_n k_21_52 rfl ?_
    refine Zp.iload_n k_21_53 rfl ?_
    refine Zp.callv2V v_11 k_21_54 m_24 (Nat.le_of_ble_eq_true rfl) (Nat.le_of_ble_eq_true rfl) (c_Plan_add pa_24 dc2.1.2.2.1 (by show (kU (dK D)).1 < 8; omega) (by omega) (by omega) (fun I3 pp3 f3 => ⟨rfl, ?_⟩))
    refine Zp.iconst (nI 1) k_21_57 (by decide) ?_
    refine Zp.iret _ k_21_58 vr_21 rfl ?_
    have f23 : FrO I2 I3 := ⟨⟨fun q hq => f3 q (by omega) (by omega), fun j _ _ => by rw [f3 29 (by decide) (by decide)], by rw [f3 15 (by decide) (by decide)]⟩, by rw [f3 15 (by decide) (by decide)]⟩
    have dc3 : DC I3 (plnD D a b) := ⟨⟨dc2.1.1.fr (f3 _ (by decide) (by decide)) (f3 _ (by decide) (by decide)) (f3 _ (by decide) (by decide)), dc2.1.2.1.fr (f3 _ (by decide) (by decide)) (f3 _ (by decide) (by decide)) (f3 _ (by decide) (by decide)) (f3 _ (by decide) (by decide)), pp3, dc2.1.2.2.2.fr (f3 _ (by decide) (by decide)) (f3 _ (by decide) (by decide)) (f3 _ (by decide) (by decide))⟩, by rw [f3 15 (by decide) (by decide)]; exact dc2.2.1, by rw [f3 15 (by decide) (by decide)]; exact dc2.2.2.1, by rw [f3 15 (by decide) (by decide)]; exact dc2.2.2.2⟩
    exact hok _ p2 I3 he dc3 (by rw [f3 29 (by decide) (by decide)]; exact g3) (f2.tr f23)
  have ok1 : ∀ a p1 I2, ¬ 8 ≤ (kU (dK D)).1 → rdH T (-1) p = .inr (a, p1) → I2 29 3 = nI p1 → (I2 15 7).toInt = ((max (dh D) (a + 1) : Nat) : Int) - 1 → FrY I I2 → I2 15 2 = I 15 2 → Zp G 21 24 [some (.ref 15), none, none] [.int (nI a)] I2 L Q := by
    intro a p1 I2 hf hr1 g3 g7 f2 e2
    obtain ⟨r1, r2, r3, r4, r5⟩ := rdH_ok hp hr1
    have ea : (nI a).toInt = (a : Int) := nI_toInt (by omega)
    refine Zp.istore_n [some (.ref _), some (.int _), none] k_21_24 (Nat.lt_of_lt_of_eq (zlt rfl : 1 < 3) vl_21.symm) rfl ?_
    refine Zp.iload_n k_21_25 rfl ?_
    refine Zp.if_geN k_21_26 (by omega) ?_
    refine Zp.aload_n k_21_33 rfl ?_
    refine Zp.iload_n k_21_34 rfl ?_
    refine Zp.callv1I v_22 k_21_35 m_15 (Nat.le_of_ble_eq_true rfl) (Nat.le_of_ble_eq_true rfl) (c_readHelperC (tp.y f2) to r3 g3 g7 (by omega) (fun c s' I3 hr2 x y f3 => ⟨_, rfl, bad3 c s' I3 _ ((if_neg hf).trans ((sbd_r hr1).trans (sbd_l (by rw [ea] at hr2; exact hr2)))) x y (f2.tr f3).d⟩) (fun b p2 I3 hr2 _ h3' h7' f3 e3 => ⟨_, rfl, ok2 a b p1 p2 I3 hf hr1 (by rw [ea] at hr2; exact hr2) (rdH_ok r3 hr2).1 r1 h3' (dc.y (f2.tr f3) h7') ⟨(f2.tr f3).d, e3.trans e2⟩⟩))
    
  refine Zm.go [some (.ref _), none, none] vl_21 rfl ?_
  refine Zp.aload_n k_21_0 rfl ?_
  refine Zp.getR k_21_1 rfl (zlt rfl) m_15 r_15_0 ?_
  refine Zp.getR k_21_4 rfl (zlt rfl) m_16 r_16_2 ?_
  refine Zp.callv0I v_10 k_21_7 m_24 (Nat.le_of_ble_eq_true rfl) (Nat.le_of_ble_eq_true rfl) (c_Plan_isFull pa_24 dc.1.2.2.1 d6 ⟨_, rfl, ?_⟩)
  refine Zp.if_eqB k_21_10 (fun c_10 => ?_) (fun c_10 => ?_)
  · refine Zp.aload_n k_21_19 rfl ?_
    refine Zp.iconst (-1) k_21_20 (by decide) ?_
    refine Zp.callv1I v_22 k_21_21 m_15 (Nat.le_of_ble_eq_true rfl) (Nat.le_of_ble_eq_true rfl) (c_readHelperC tp to hp h3 dc.2.2.2 d8 (fun c s' I2 hr x y f2 => ⟨_, rfl, bad2 c s' I2 ((if_neg (by omega)).trans (sbd_l hr)) x y f2.d⟩) (fun a p1 I2 hr _ g3 g7 f2 e2 => ⟨_, rfl, ok1 a p1 I2 (by omega) hr g3 g7 f2 e2⟩))
    
  · refine Zp.aload_n k_21_13 rfl ?_
    refine Zp.iconst (nI 5) k_21_14 (by decide) ?_
    refine Zp.callv1I v_25 k_21_15 m_15 (Nat.le_of_ble_eq_true rfl) (Nat.le_of_ble_eq_true rfl) (c_fails h2 (fun I2 a b f2 => ⟨_, rfl, bad1 I2 a b f2 (by omega)⟩))
    
end LINES
