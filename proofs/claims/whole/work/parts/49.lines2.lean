/-! THE TEXT: the class reads it all -/
section LINES2
variable {G : zG} {I : zI} {L : zJ} {Q : zP} {T : zTp} {D : zD} {p s e : Nat}

theorem c_readHatredC0 (dc : DC I D) (do_ : Do D) (tp : Tp I T) (to : To T) (hp : p ≤ T.1) (h3 : I 29 3 = nI p)
    (hbad : ∀ c s' I', hatS T 0 D p = .inl (c, s') → I' 15 2 = nI c → I' 15 3 = nI s' → FrD I I' → Q (some (.int (nI 0))) I' L)
    (hok : ∀ D' p' I', hatS T 0 D p = .inr (D', p') → DC I' D' → I' 29 3 = nI p' → FrO I I' → Q (some (.int (nI 1))) I' L) : Zm G 18 [.ref 15, .int (nI 0)] I L Q := by
  obtain ⟨d1, d2, d3, d4, d5, d6, d7, d8, d9⟩ := id do_
  have bad3 : ∀ c s' I2 (x1 : Int32), hatS T 0 D p = .inl (c, s') → I2 15 2 = nI c → I2 15 3 = nI s' → FrD I I2 → Zp G 18 19 [some (.ref 15), some (.int (nI 0)), some (.int x1), none, none, none, none] [.int (-1)] I2 L Q := by
    intro c s' I2 x1 he a b f2
    refine Zp.istore_n [some (.ref _), some (.int _), some (.int _), some (.int _), none, none, none] k_18_19 (Nat.lt_of_lt_of_eq (zlt rfl : 3 < 7) vl_18.symm) rfl ?_
    refine Zp.iload_n k_18_20 rfl ?_
    refine Zp.if_geZ (-1) k_18_21 (by decide) (fun c_21 => absurd c_21 (by omega)) (fun c_21 => ?_)
    refine Zp.iconst (nI 0) k_18_24 (by decide) ?_
    refine Zp.iret _ k_18_25 vr_18 rfl ?_
    exact hbad c s' I2 he a b f2
  have bad2 : ∀ c s' I2, hatS T 0 D p = .inl (c, s') → I2 15 2 = nI c → I2 15 3 = nI s' → FrD I I2 → Zp G 18 5 [some (.ref 15), some (.int (nI 0)), none, none, none, none, none] [.int (-1)] I2 L Q := by
    intro c s' I2 he a b f2
    refine Zp.istore_n [some (.ref _), some (.int _), some (.int _), none, none, none, none] k_18_5 (Nat.lt_of_lt_of_eq (zlt rfl : 2 < 7) vl_18.symm) rfl ?_
    refine Zp.iload_n k_18_6 rfl ?_
    refine Zp.if_geZ (-1) k_18_7 (by decide) (fun c_7 => absurd c_7 (by omega)) (fun c_7 => ?_)
    refine Zp.iconst (-1) k_18_10 (by decide) ?_
    refine Zp.goto k_18_11 ?_
    exact bad3 c s' I2 _ he a b f2
  have bad5 : ∀ c s' I2 (x2 x3 x4 x5 : Int32), hatS T 0 D p = .inl (c, s') → I2 15 2 = nI c → I2 15 3 = nI s' → FrD I I2 → Zp G 18 92 [some (.ref 15), some (.int (nI 0)), some (.int x2), some (.int x3), some (.int x4), some (.int x5), none] [.int (-1)] I2 L Q := by
    intro c s' I2 x2 x3 x4 x5 he a b f2
    refine Zp.istore [some (.ref _), some (.int _), some (.int _), some (.int _), some (.int _), some (.int _), some (.int _)] k_18_92 (Nat.lt_of_lt_of_eq (zlt rfl : 6 < 7) vl_18.symm) rfl ?_
    refine Zp.iload k_18_94 rfl ?_
    refine Zp.if_geZ (-1) k_18_96 (by decide) (fun c_96 => absurd c_96 (by omega)) (fun c_96 => ?_)
    refine Zp.iconst (nI 0) k_18_99 (by decide) ?_
    refine Zp.iret _ k_18_100 vr_18 rfl ?_
    exact hbad c s' I2 he a b f2
  have ok5 : ∀ a b v p3 I2 (x4 x5 : Int32), hatS T 0 D p = .inr (hatD D 0 a b v, p3) → a ≤ 4 → b ≤ 4 → v ≤ 9 → I2 29 3 = nI p3 → DC I2 (dK D, dw D ||| hm 0 a b, dp D, max (max (dh D) (a + 1)) (b + 1)) → FrO I I2 → Zp G 18 92 [some (.ref 15), some (.int (nI 0)), some (.int (nI a)), some (.int (nI b)), some (.int x4), some (.int x5), none] [.int (nI v)] I2 L Q := by
    intro a b v p3 I2 x4 x5 he ha hb hv g3 dc2 f2
    refine Zp.istore [some (.ref _), some (.int _), some (.int _), some (.int _), some (.int _), some (.int _), some (.int _)] k_18_92 (Nat.lt_of_lt_of_eq (zlt rfl : 6 < 7) vl_18.symm) rfl ?_
    refine Zp.iload k_18_94 rfl ?_
    refine Zp.if_geN k_18_96 (by omega) ?_
    refine Zp.aload_n k_18_101 rfl ?_
    refine Zp.getR k_18_102 rfl (zlt rfl) m_15 r_15_0 ?_
    refine Zp.getR k_18_105 rfl (zlt rfl) m_16 r_16_0 ?_
    refine Zp.iload_n k_18_108 rfl ?_
    refine Zp.iload_n k_18_109 rfl ?_
    refine Zp.iload k_18_110 rfl ?_
    refine Zp.callv3V v_59 k_18_112 m_17 (Nat.le_of_ble_eq_true rfl) (Nat.le_of_ble_eq_true rfl) (c_setHatred sa_17 (by omega) (by omega) ⟨rfl, ?_⟩)
    refine Zp.iload_n k_18_115 rfl ?_
    refine Zp.if_eqN k_18_116 (by omega) (fun _ => ?_) (fun c => absurd c (by decide))
    refine Zp.iconst (nI 1) k_18_133 (by decide) ?_
    refine Zp.iret _ k_18_134 vr_18 rfl ?_
    have e : ∀ q, q ≠ 17 → q ≠ 18 → q ≠ 19 → zpu I2 (17 + 2) (a * 5 + b) (nI v) q = I2 q := fun q x y z => by rw [zpu_q _ _ _ z]
    exact hok _ p3 _ he (dc2.soup (dc2.1.1.uh (j := a * 5 + b) (v := v) rfl) e) (by rw [e 29 (by decide) (by decide) (by decide)]; exact g3) (f2.tr (FrO.soup e))
  have bad4 : ∀ a b p1 p2 I2 (x4 x5 : Int32), rdH T (-1) p = .inr (a, p1) → rdH T a p1 = .inr (b, p2) → ¬ (dw D &&& hm 0 a b) = 0 → I2 15 2 = nI 4 → I2 15 3 = nI (tok T p1).2.1 → FrD I I2 → Zp G 18 70 [some (.ref 15), some (.int (nI 0)), some (.int (nI a)), some (.int (nI b)), some (.int x4), some (.int x5), none] [.int (nI 0)] I2 L Q := by
    intro a b p1 p2 I2 x4 x5 hr1 hr2 hw z1 z2 f2
    have he : hatS T 0 D p = .inl (4, (tok T p1).2.1) := (sbd_r hr1).trans ((sbd_r hr2).trans (if_neg hw))
    refine Zp.iret _ k_18_70 vr_18 rfl ?_
    exact hbad 4 _ I2 he z1 z2 f2
  have ok2 : ∀ a b p1 p2 I2, rdH T (-1) p = .inr (a, p1) → rdH T a p1 = .inr (b, p2) → p2 ≤ T.1 → b ≤ 4 → a ≤ 4 → I2 29 2 = nI (tok T p1).2.1 → I2 29 3 = nI p2 → DC I2 (dK D, dw D, dp D, max (max (dh D) (a + 1)) (b + 1)) → FrO I I2 → Zp G 18 19 [some (.ref 15), some (.int (nI 0)), some (.int (nI a)), none, none, none, none] [.int (nI b)] I2 L Q := by
    intro a b p1 p2 I2 hr1 hr2 hp2 hb4 ha4 g2 g3 dc2 f2
    have fw : FrO I2 (zpu I2 15 5 (dw D ||| hm 0 a b)) := ⟨⟨fun q hq => zpu_q _ _ _ (by omega), fun j _ _ => by rw [zpu_q _ _ _ (by decide)], by rw [zpu_k _ _ _ (by decide)]⟩, by rw [zpu_k _ _ _ (by decide)]⟩
    have dcw : DC (zpu I2 15 5 (dw D ||| hm 0 a b)) (dK D, dw D ||| hm 0 a b, dp D, max (max (dh D) (a + 1)) (b + 1)) := ⟨dc2.1.fr fun q x y => zpu_q _ _ _ (by omega), zpu_s _ _ _ _, by rw [zpu_k _ _ _ (by decide)]; exact dc2.2.2.1, by rw [zpu_k _ _ _ (by decide)]; exact dc2.2.2.2⟩
    refine Zp.istore_n [some (.ref _), some (.int _), some (.int _), some (.int _), none, none, none] k_18_19 (Nat.lt_of_lt_of_eq (zlt rfl : 3 < 7) vl_18.symm) rfl ?_
    refine Zp.iload_n k_18_20 rfl ?_
    refine Zp.if_geN k_18_21 (by omega) ?_
    refine Zp.iconst (nI 1) k_18_26 (by decide) ?_
    refine Zp.iload_n k_18_27 rfl ?_
    refine Zp.iconst (nI 5) k_18_28 (by decide) ?_
    refine Zp.imulN k_18_29 ?_
    refine Zp.iload_n k_18_30 rfl ?_
    refine Zp.iaddN k_18_31 ?_
    refine Zp.ishl k_18_32 ?_
    refine Zp.istore [some (.ref _), some (.int _), some (.int _), some (.int _), some (.int _), none, none] k_18_33 (Nat.lt_of_lt_of_eq (zlt rfl : 4 < 7) vl_18.symm) rfl ?_
    refine Zp.iload_n k_18_35 rfl ?_
    refine Zp.if_eqN k_18_36 (by omega) (fun _ => ?_) (fun c => absurd c (by decide))
    refine Zp.iconst (nI 0) k_18_49 (by decide) ?_
    refine Zp.istore [some (.ref _), some (.int _), some (.int _), some (.int _), some (.int _), some (.int _), none] k_18_50 (Nat.lt_of_lt_of_eq (zlt rfl : 5 < 7) vl_18.symm) rfl ?_
    refine Zp.aload_n k_18_52 rfl ?_
    refine Zp.getV k_18_53 rfl (zlt rfl) m_15 dc2.2.1 ?_
    refine Zp.iload k_18_56 rfl ?_
    refine Zp.iload k_18_58 rfl ?_
    refine Zp.ior k_18_60 ?_
    refine Zp.iand k_18_61 ?_
    refine Zp.if_eq k_18_62 (fun c_62 => ?_) (fun c_62 => ?_)
    · refine Zp.aload_n k_18_71 rfl ?_
      refine Zp.dup k_18_72 rfl ?_
      refine Zp.getV k_18_73 rfl (zlt rfl) m_15 dc2.2.1 ?_
      refine Zp.iload k_18_76 rfl ?_
      refine Zp.iload k_18_78 rfl ?_
      refine Zp.ior k_18_80 ?_
      refine Zp.ior k_18_81 ?_
      refine Zp.putI k_18_82 rfl (zlt rfl) m_15 ?_
      refine Zp.aload_n k_18_85 rfl ?_
      refine Zp.iconst (nI 0) k_18_86 (by decide) ?_
      refine Zp.bipush (nI 9) k_18_87 (by decide) ?_
      refine Zp.callv2I v_23 k_18_89 m_15 (Nat.le_of_ble_eq_true rfl) (Nat.le_of_ble_eq_true rfl) (c_readNumberC (tp.d (f2.tr fw).1) to hp2 (by rw [zpu_q _ _ _ (by decide)]; exact g3) (by decide) (by decide) (fun c s' I3 hr3 x y f3 => ⟨_, rfl, bad5 c s' I3 _ _ _ _ ((sbd_r hr1).trans ((sbd_r hr2).trans ((if_pos c_62).trans (sbd_l hr3)))) x y ((f2.tr fw).1.tr f3.y.d)⟩) (fun v p3 I3 hr3 _ h3' f3 e3 => ⟨_, rfl, ok5 a b v p3 I3 _ _ ((sbd_r hr1).trans ((sbd_r hr2).trans ((if_pos c_62).trans (sbd_r hr3)))) ha4 hb4 (rdN_ok hp2 hr3).2.1 h3' (dcw.x f3) ((f2.tr fw).tr (f3.o e3))⟩))
      
    · refine Zp.aload_n k_18_65 rfl ?_
      refine Zp.iconst (nI 4) k_18_66 (by decide) ?_
      refine Zp.callv1I v_25 k_18_67 m_15 (Nat.le_of_ble_eq_true rfl) (Nat.le_of_ble_eq_true rfl) (c_fails g2 (fun I3 x y f3 => ⟨_, rfl, bad4 a b p1 p2 I3 _ _ hr1 hr2 c_62 x y (f2.1.tr f3.y.d)⟩))
      
  have ok1 : ∀ a p1 I2, rdH T (-1) p = .inr (a, p1) → I2 29 3 = nI p1 → (I2 15 7).toInt = ((max (dh D) (a + 1) : Nat) : Int) - 1 → FrY I I2 → I2 15 2 = I 15 2 → Zp G 18 5 [some (.ref 15), some (.int (nI 0)), none, none, none, none, none] [.int (nI a)] I2 L Q := by
    intro a p1 I2 hr1 g3 g7 f2 e2
    obtain ⟨r1, r2, r3, r4, r5⟩ := rdH_ok hp hr1
    have ea : (nI a).toInt = (a : Int) := nI_toInt (by omega)
    refine Zp.istore_n [some (.ref _), some (.int _), some (.int _), none, none, none, none] k_18_5 (Nat.lt_of_lt_of_eq (zlt rfl : 2 < 7) vl_18.symm) rfl ?_
    refine Zp.iload_n k_18_6 rfl ?_
    refine Zp.if_geN k_18_7 (by omega) ?_
    refine Zp.aload_n k_18_14 rfl ?_
    refine Zp.iload_n k_18_15 rfl ?_
    refine Zp.callv1I v_22 k_18_16 m_15 (Nat.le_of_ble_eq_true rfl) (Nat.le_of_ble_eq_true rfl) (c_readHelperC (tp.y f2) to r3 g3 g7 (by omega) (fun c s' I3 hr2 x y f3 => ⟨_, rfl, bad3 c s' I3 _ ((sbd_r hr1).trans (sbd_l (by rw [ea] at hr2; exact hr2))) x y (f2.tr f3).d⟩) (fun b p2 I3 hr2 g2' h3' h7' f3 e3 => ⟨_, rfl, ok2 a b p1 p2 I3 hr1 (by rw [ea] at hr2; exact hr2) (rdH_ok r3 hr2).2.2.1 (rdH_ok r3 hr2).1 r1 g2' h3' (dc.y (f2.tr f3) h7') ⟨(f2.tr f3).d, e3.trans e2⟩⟩))
    
  refine Zm.go [some (.ref _), some (.int _), none, none, none, none, none] vl_18 rfl ?_
  refine Zp.aload_n k_18_0 rfl ?_
  refine Zp.iconst (-1) k_18_1 (by decide) ?_
  refine Zp.callv1I v_22 k_18_2 m_15 (Nat.le_of_ble_eq_true rfl) (Nat.le_of_ble_eq_true rfl) (c_readHelperC tp to hp h3 dc.2.2.2 d8 (fun c s' I2 hr x y f2 => ⟨_, rfl, bad2 c s' I2 (sbd_l hr) x y f2.d⟩) (fun a p1 I2 hr _ g3 g7 f2 e2 => ⟨_, rfl, ok1 a p1 I2 hr g3 g7 f2 e2⟩))
  

theorem c_readHatredC1 (dc : DC I D) (do_ : Do D) (tp : Tp I T) (to : To T) (hp : p ≤ T.1) (h3 : I 29 3 = nI p)
    (hbad : ∀ c s' I', hatS T 1 D p = .inl (c, s') → I' 15 2 = nI c → I' 15 3 = nI s' → FrD I I' → Q (some (.int (nI 0))) I' L)
    (hok : ∀ D' p' I', hatS T 1 D p = .inr (D', p') → DC I' D' → I' 29 3 = nI p' → FrO I I' → Q (some (.int (nI 1))) I' L) : Zm G 18 [.ref 15, .int (nI 1)] I L Q := by
  obtain ⟨d1, d2, d3, d4, d5, d6, d7, d8, d9⟩ := id do_
  have bad3 : ∀ c s' I2 (x1 : Int32), hatS T 1 D p = .inl (c, s') → I2 15 2 = nI c → I2 15 3 = nI s' → FrD I I2 → Zp G 18 19 [some (.ref 15), some (.int (nI 1)), some (.int x1), none, none, none, none] [.int (-1)] I2 L Q := by
    intro c s' I2 x1 he a b f2
    refine Zp.istore_n [some (.ref _), some (.int _), some (.int _), some (.int _), none, none, none] k_18_19 (Nat.lt_of_lt_of_eq (zlt rfl : 3 < 7) vl_18.symm) rfl ?_
    refine Zp.iload_n k_18_20 rfl ?_
    refine Zp.if_geZ (-1) k_18_21 (by decide) (fun c_21 => absurd c_21 (by omega)) (fun c_21 => ?_)
    refine Zp.iconst (nI 0) k_18_24 (by decide) ?_
    refine Zp.iret _ k_18_25 vr_18 rfl ?_
    exact hbad c s' I2 he a b f2
  have bad2 : ∀ c s' I2, hatS T 1 D p = .inl (c, s') → I2 15 2 = nI c → I2 15 3 = nI s' → FrD I I2 → Zp G 18 5 [some (.ref 15), some (.int (nI 1)), none, none, none, none, none] [.int (-1)] I2 L Q := by
    intro c s' I2 he a b f2
    refine Zp.istore_n [some (.ref _), some (.int _), some (.int _), none, none, none, none] k_18_5 (Nat.lt_of_lt_of_eq (zlt rfl : 2 < 7) vl_18.symm) rfl ?_
    refine Zp.iload_n k_18_6 rfl ?_
    refine Zp.if_geZ (-1) k_18_7 (by decide) (fun c_7 => absurd c_7 (by omega)) (fun c_7 => ?_)
    refine Zp.iconst (-1) k_18_10 (by decide) ?_
    refine Zp.goto k_18_11 ?_
    exact bad3 c s' I2 _ he a b f2
  have bad5 : ∀ c s' I2 (x2 x3 x4 x5 : Int32), hatS T 1 D p = .inl (c, s') → I2 15 2 = nI c → I2 15 3 = nI s' → FrD I I2 → Zp G 18 92 [some (.ref 15), some (.int (nI 1)), some (.int x2), some (.int x3), some (.int x4), some (.int x5), none] [.int (-1)] I2 L Q := by
    intro c s' I2 x2 x3 x4 x5 he a b f2
    refine Zp.istore [some (.ref _), some (.int _), some (.int _), some (.int _), some (.int _), some (.int _), some (.int _)] k_18_92 (Nat.lt_of_lt_of_eq (zlt rfl : 6 < 7) vl_18.symm) rfl ?_
    refine Zp.iload k_18_94 rfl ?_
    refine Zp.if_geZ (-1) k_18_96 (by decide) (fun c_96 => absurd c_96 (by omega)) (fun c_96 => ?_)
    refine Zp.iconst (nI 0) k_18_99 (by decide) ?_
    refine Zp.iret _ k_18_100 vr_18 rfl ?_
    exact hbad c s' I2 he a b f2
  have ok5 : ∀ a b v p3 I2 (x4 x5 : Int32), hatS T 1 D p = .inr (hatD D 1 a b v, p3) → a ≤ 4 → b ≤ 4 → v ≤ 9 → I2 29 3 = nI p3 → DC I2 (dK D, dw D ||| hm 1 a b, dp D, max (max (dh D) (a + 1)) (b + 1)) → FrO I I2 → Zp G 18 92 [some (.ref 15), some (.int (nI 1)), some (.int (nI a)), some (.int (nI b)), some (.int x4), some (.int x5), none] [.int (nI v)] I2 L Q := by
    intro a b v p3 I2 x4 x5 he ha hb hv g3 dc2 f2
    refine Zp.istore [some (.ref _), some (.int _), some (.int _), some (.int _), some (.int _), some (.int _), some (.int _)] k_18_92 (Nat.lt_of_lt_of_eq (zlt rfl : 6 < 7) vl_18.symm) rfl ?_
    refine Zp.iload k_18_94 rfl ?_
    refine Zp.if_geN k_18_96 (by omega) ?_
    refine Zp.aload_n k_18_101 rfl ?_
    refine Zp.getR k_18_102 rfl (zlt rfl) m_15 r_15_0 ?_
    refine Zp.getR k_18_105 rfl (zlt rfl) m_16 r_16_0 ?_
    refine Zp.iload_n k_18_108 rfl ?_
    refine Zp.iload_n k_18_109 rfl ?_
    refine Zp.iload k_18_110 rfl ?_
    refine Zp.callv3V v_59 k_18_112 m_17 (Nat.le_of_ble_eq_true rfl) (Nat.le_of_ble_eq_true rfl) (c_setHatred sa_17 (by omega) (by omega) ⟨rfl, ?_⟩)
    refine Zp.iload_n k_18_115 rfl ?_
    refine Zp.if_eqN k_18_116 (by omega) (fun c => absurd c (by decide)) (fun _ => ?_)
    refine Zp.aload_n k_18_119 rfl ?_
    refine Zp.getR k_18_120 rfl (zlt rfl) m_15 r_15_0 ?_
    refine Zp.getR k_18_123 rfl (zlt rfl) m_16 r_16_0 ?_
    refine Zp.iload_n k_18_126 rfl ?_
    refine Zp.iload_n k_18_127 rfl ?_
    refine Zp.iload k_18_128 rfl ?_
    refine Zp.callv3V v_59 k_18_130 m_17 (Nat.le_of_ble_eq_true rfl) (Nat.le_of_ble_eq_true rfl) (c_setHatred sa_17 (by omega) (by omega) ⟨rfl, ?_⟩)
    refine Zp.iconst (nI 1) k_18_133 (by decide) ?_
    refine Zp.iret _ k_18_134 vr_18 rfl ?_
    have e : ∀ q, q ≠ 17 → q ≠ 18 → q ≠ 19 → zpu (zpu I2 (17 + 2) (a * 5 + b) (nI v)) (17 + 2) (b * 5 + a) (nI v) q = I2 q := fun q x y z => by rw [zpu_q _ _ _ z, zpu_q _ _ _ z]
    exact hok _ p3 _ he (dc2.soup ((dc2.1.1.uh (j := a * 5 + b) (v := v) rfl).uh (j := b * 5 + a) (v := v) rfl) e) (by rw [e 29 (by decide) (by decide) (by decide)]; exact g3) (f2.tr (FrO.soup e))
  have bad4 : ∀ a b p1 p2 I2 (x4 x5 : Int32), rdH T (-1) p = .inr (a, p1) → rdH T a p1 = .inr (b, p2) → ¬ (dw D &&& hm 1 a b) = 0 → I2 15 2 = nI 4 → I2 15 3 = nI (tok T p1).2.1 → FrD I I2 → Zp G 18 70 [some (.ref 15), some (.int (nI 1)), some (.int (nI a)), some (.int (nI b)), some (.int x4), some (.int x5), none] [.int (nI 0)] I2 L Q := by
    intro a b p1 p2 I2 x4 x5 hr1 hr2 hw z1 z2 f2
    have he : hatS T 1 D p = .inl (4, (tok T p1).2.1) := (sbd_r hr1).trans ((sbd_r hr2).trans (if_neg hw))
    refine Zp.iret _ k_18_70 vr_18 rfl ?_
    exact hbad 4 _ I2 he z1 z2 f2
  have ok2 : ∀ a b p1 p2 I2, rdH T (-1) p = .inr (a, p1) → rdH T a p1 = .inr (b, p2) → p2 ≤ T.1 → b ≤ 4 → a ≤ 4 → I2 29 2 = nI (tok T p1).2.1 → I2 29 3 = nI p2 → DC I2 (dK D, dw D, dp D, max (max (dh D) (a + 1)) (b + 1)) → FrO I I2 → Zp G 18 19 [some (.ref 15), some (.int (nI 1)), some (.int (nI a)), none, none, none, none] [.int (nI b)] I2 L Q := by
    intro a b p1 p2 I2 hr1 hr2 hp2 hb4 ha4 g2 g3 dc2 f2
    have fw : FrO I2 (zpu I2 15 5 (dw D ||| hm 1 a b)) := ⟨⟨fun q hq => zpu_q _ _ _ (by omega), fun j _ _ => by rw [zpu_q _ _ _ (by decide)], by rw [zpu_k _ _ _ (by decide)]⟩, by rw [zpu_k _ _ _ (by decide)]⟩
    have dcw : DC (zpu I2 15 5 (dw D ||| hm 1 a b)) (dK D, dw D ||| hm 1 a b, dp D, max (max (dh D) (a + 1)) (b + 1)) := ⟨dc2.1.fr fun q x y => zpu_q _ _ _ (by omega), zpu_s _ _ _ _, by rw [zpu_k _ _ _ (by decide)]; exact dc2.2.2.1, by rw [zpu_k _ _ _ (by decide)]; exact dc2.2.2.2⟩
    refine Zp.istore_n [some (.ref _), some (.int _), some (.int _), some (.int _), none, none, none] k_18_19 (Nat.lt_of_lt_of_eq (zlt rfl : 3 < 7) vl_18.symm) rfl ?_
    refine Zp.iload_n k_18_20 rfl ?_
    refine Zp.if_geN k_18_21 (by omega) ?_
    refine Zp.iconst (nI 1) k_18_26 (by decide) ?_
    refine Zp.iload_n k_18_27 rfl ?_
    refine Zp.iconst (nI 5) k_18_28 (by decide) ?_
    refine Zp.imulN k_18_29 ?_
    refine Zp.iload_n k_18_30 rfl ?_
    refine Zp.iaddN k_18_31 ?_
    refine Zp.ishl k_18_32 ?_
    refine Zp.istore [some (.ref _), some (.int _), some (.int _), some (.int _), some (.int _), none, none] k_18_33 (Nat.lt_of_lt_of_eq (zlt rfl : 4 < 7) vl_18.symm) rfl ?_
    refine Zp.iload_n k_18_35 rfl ?_
    refine Zp.if_eqN k_18_36 (by omega) (fun c => absurd c (by decide)) (fun _ => ?_)
    refine Zp.iconst (nI 1) k_18_39 (by decide) ?_
    refine Zp.iload_n k_18_40 rfl ?_
    refine Zp.iconst (nI 5) k_18_41 (by decide) ?_
    refine Zp.imulN k_18_42 ?_
    refine Zp.iload_n k_18_43 rfl ?_
    refine Zp.iaddN k_18_44 ?_
    refine Zp.ishl k_18_45 ?_
    refine Zp.goto k_18_46 ?_
    refine Zp.istore [some (.ref _), some (.int _), some (.int _), some (.int _), some (.int _), some (.int _), none] k_18_50 (Nat.lt_of_lt_of_eq (zlt rfl : 5 < 7) vl_18.symm) rfl ?_
    refine Zp.aload_n k_18_52 rfl ?_
    refine Zp.getV k_18_53 rfl (zlt rfl) m_15 dc2.2.1 ?_
    refine Zp.iload k_18_56 rfl ?_
    refine Zp.iload k_18_58 rfl ?_
    refine Zp.ior k_18_60 ?_
    refine Zp.iand k_18_61 ?_
    refine Zp.if_eq k_18_62 (fun c_62 => ?_) (fun c_62 => ?_)
    · refine Zp.aload_n k_18_71 rfl ?_
      refine Zp.dup k_18_72 rfl ?_
      refine Zp.getV k_18_73 rfl (zlt rfl) m_15 dc2.2.1 ?_
      refine Zp.iload k_18_76 rfl ?_
      refine Zp.iload k_18_78 rfl ?_
      refine Zp.ior k_18_80 ?_
      refine Zp.ior k_18_81 ?_
      refine Zp.putI k_18_82 rfl (zlt rfl) m_15 ?_
      refine Zp.aload_n k_18_85 rfl ?_
      refine Zp.iconst (nI 0) k_18_86 (by decide) ?_
      refine Zp.bipush (nI 9) k_18_87 (by decide) ?_
      refine Zp.callv2I v_23 k_18_89 m_15 (Nat.le_of_ble_eq_true rfl) (Nat.le_of_ble_eq_true rfl) (c_readNumberC (tp.d (f2.tr fw).1) to hp2 (by rw [zpu_q _ _ _ (by decide)]; exact g3) (by decide) (by decide) (fun c s' I3 hr3 x y f3 => ⟨_, rfl, bad5 c s' I3 _ _ _ _ ((sbd_r hr1).trans ((sbd_r hr2).trans ((if_pos c_62).trans (sbd_l hr3)))) x y ((f2.tr fw).1.tr f3.y.d)⟩) (fun v p3 I3 hr3 _ h3' f3 e3 => ⟨_, rfl, ok5 a b v p3 I3 _ _ ((sbd_r hr1).trans ((sbd_r hr2).trans ((if_pos c_62).trans (sbd_r hr3)))) ha4 hb4 (rdN_ok hp2 hr3).2.1 h3' (dcw.x f3) ((f2.tr fw).tr (f3.o e3))⟩))
      
    · refine Zp.aload_n k_18_65 rfl ?_
      refine Zp.iconst (nI 4) k_18_66 (by decide) ?_
      refine Zp.callv1I v_25 k_18_67 m_15 (Nat.le_of_ble_eq_true rfl) (Nat.le_of_ble_eq_true rfl) (c_fails g2 (fun I3 x y f3 => ⟨_, rfl, bad4 a b p1 p2 I3 _ _ hr1 hr2 c_62 x y (f2.1.tr f3.y.d)⟩))
      
  have ok1 : ∀ a p1 I2, rdH T (-1) p = .inr (a, p1) → I2 29 3 = nI p1 → (I2 15 7).toInt = ((max (dh D) (a + 1) : Nat) : Int) - 1 → FrY I I2 → I2 15 2 = I 15 2 → Zp G 18 5 [some (.ref 15), some (.int (nI 1)), none, none, none, none, none] [.int (nI a)] I2 L Q := by
    intro a p1 I2 hr1 g3 g7 f2 e2
    obtain ⟨r1, r2, r3, r4, r5⟩ := rdH_ok hp hr1
    have ea : (nI a).toInt = (a : Int) := nI_toInt (by omega)
    refine Zp.istore_n [some (.ref _), some (.int _), some (.int _), none, none, none, none] k_18_5 (Nat.lt_of_lt_of_eq (zlt rfl : 2 < 7) vl_18.symm) rfl ?_
    refine Zp.iload_n k_18_6 rfl ?_
    refine Zp.if_geN k_18_7 (by omega) ?_
    refine Zp.aload_n k_18_14 rfl ?_
    refine Zp.iload_n k_18_15 rfl ?_
    refine Zp.callv1I v_22 k_18_16 m_15 (Nat.le_of_ble_eq_true rfl) (Nat.le_of_ble_eq_true rfl) (c_readHelperC (tp.y f2) to r3 g3 g7 (by omega) (fun c s' I3 hr2 x y f3 => ⟨_, rfl, bad3 c s' I3 _ ((sbd_r hr1).trans (sbd_l (by rw [ea] at hr2; exact hr2))) x y (f2.tr f3).d⟩) (fun b p2 I3 hr2 g2' h3' h7' f3 e3 => ⟨_, rfl, ok2 a b p1 p2 I3 hr1 (by rw [ea] at hr2; exact hr2) (rdH_ok r3 hr2).2.2.1 (rdH_ok r3 hr2).1 r1 g2' h3' (dc.y (f2.tr f3) h7') ⟨(f2.tr f3).d, e3.trans e2⟩⟩))
    
  refine Zm.go [some (.ref _), some (.int _), none, none, none, none, none] vl_18 rfl ?_
  refine Zp.aload_n k_18_0 rfl ?_
  refine Zp.iconst (-1) k_18_1 (by decide) ?_
  refine Zp.callv1I v_22 k_18_2 m_15 (Nat.le_of_ble_eq_true rfl) (Nat.le_of_ble_eq_true rfl) (c_readHelperC tp to hp h3 dc.2.2.2 d8 (fun c s' I2 hr x y f2 => ⟨_, rfl, bad2 c s' I2 (sbd_l hr) x y f2.d⟩) (fun a p1 I2 hr _ g3 g7 f2 e2 => ⟨_, rfl, ok1 a p1 I2 hr g3 g7 f2 e2⟩))
  
theorem c_lineOfName (tp : Tp I T) (to : To T) (h2 : I 29 2 = nI s) (h3 : I 29 3 = nI e) (hse : s ≤ e) (he : e ≤ T.1) (hq : Q (some (.int (nI (nmK T s e)))) I L) : Zm G 16 [.ref 15] I L Q := by
  refine Zm.go [some (.ref _)] vl_16 rfl ?_
  refine Zp.aload_n k_16_0 rfl ?_
  refine Zp.getR k_16_1 rfl (zlt rfl) m_15 r_15_4 ?_
  refine Zp.ldcT 0 (by decide) k_16_4 rfl rfl ?_
  refine Zp.callv1I v_72 k_16_6 m_29 (Nat.le_of_ble_eq_true rfl) (Nat.le_of_ble_eq_true rfl) (c_isName (i := 0) tp to h2 h3 hse he (by decide) (fun c0 g0 i0 => ⟨_, rfl, ?_⟩))
  refine Zp.if_eqN k_16_9 (by omega) (fun c_9 => ?_) (fun c_9 => ?_)
  · refine Zp.aload_n k_16_14 rfl ?_
    refine Zp.getR k_16_15 rfl (zlt rfl) m_15 r_15_4 ?_
    refine Zp.ldcT 1 (by decide) k_16_18 rfl rfl ?_
    refine Zp.callv1I v_72 k_16_20 m_29 (Nat.le_of_ble_eq_true rfl) (Nat.le_of_ble_eq_true rfl) (c_isName (i := 1) tp to h2 h3 hse he (by decide) (fun c1 g1 i1 => ⟨_, rfl, ?_⟩))
    refine Zp.if_eqN k_16_23 (by omega) (fun c_23 => ?_) (fun c_23 => ?_)
    · refine Zp.aload_n k_16_28 rfl ?_
      refine Zp.getR k_16_29 rfl (zlt rfl) m_15 r_15_4 ?_
      refine Zp.ldcT 2 (by decide) k_16_32 rfl rfl ?_
      refine Zp.callv1I v_72 k_16_34 m_29 (Nat.le_of_ble_eq_true rfl) (Nat.le_of_ble_eq_true rfl) (c_isName (i := 2) tp to h2 h3 hse he (by decide) (fun c2 g2 i2 => ⟨_, rfl, ?_⟩))
      refine Zp.if_eqN k_16_37 (by omega) (fun c_37 => ?_) (fun c_37 => ?_)
      · refine Zp.aload_n k_16_42 rfl ?_
        refine Zp.getR k_16_43 rfl (zlt rfl) m_15 r_15_4 ?_
        refine Zp.ldcT 3 (by decide) k_16_46 rfl rfl ?_
        refine Zp.callv1I v_72 k_16_48 m_29 (Nat.le_of_ble_eq_true rfl) (Nat.le_of_ble_eq_true rfl) (c_isName (i := 3) tp to h2 h3 hse he (by decide) (fun c3 g3 i3 => ⟨_, rfl, ?_⟩))
        refine Zp.if_eqN k_16_51 (by omega) (fun c_51 => ?_) (fun c_51 => ?_)
        · refine Zp.aload_n k_16_56 rfl ?_
          refine Zp.getR k_16_57 rfl (zlt rfl) m_15 r_15_4 ?_
          refine Zp.ldcT 4 (by decide) k_16_60 rfl rfl ?_
          refine Zp.callv1I v_72 k_16_62 m_29 (Nat.le_of_ble_eq_true rfl) (Nat.le_of_ble_eq_true rfl) (c_isName (i := 4) tp to h2 h3 hse he (by decide) (fun c4 g4 i4 => ⟨_, rfl, ?_⟩))
          refine Zp.if_eqN k_16_65 (by omega) (fun c_65 => ?_) (fun c_65 => ?_)
          · refine Zp.aload_n k_16_70 rfl ?_
            refine Zp.getR k_16_71 rfl (zlt rfl) m_15 r_15_4 ?_
            refine Zp.ldcT 5 (by decide) k_16_74 rfl rfl ?_
            refine Zp.callv1I v_72 k_16_76 m_29 (Nat.le_of_ble_eq_true rfl) (Nat.le_of_ble_eq_true rfl) (c_isName (i := 5) tp to h2 h3 hse he (by decide) (fun c5 g5 i5 => ⟨_, rfl, ?_⟩))
            refine Zp.if_eqN k_16_79 (by omega) (fun c_79 => ?_) (fun c_79 => ?_)
            · refine Zp.aload_n k_16_84 rfl ?_
              refine Zp.getR k_16_85 rfl (zlt rfl) m_15 r_15_4 ?_
              refine Zp.ldcT 6 (by decide) k_16_88 rfl rfl ?_
              refine Zp.callv1I v_72 k_16_90 m_29 (Nat.le_of_ble_eq_true rfl) (Nat.le_of_ble_eq_true rfl) (c_isName (i := 6) tp to h2 h3 hse he (by decide) (fun c6 g6 i6 => ⟨_, rfl, ?_⟩))
              refine Zp.if_eqN k_16_93 (by omega) (fun c_93 => ?_) (fun c_93 => ?_)
              · refine Zp.aload_n k_16_99 rfl ?_
                refine Zp.getR k_16_100 rfl (zlt rfl) m_15 r_15_4 ?_
                refine Zp.ldcT 7 (by decide) k_16_103 rfl rfl ?_
                refine Zp.callv1I v_72 k_16_105 m_29 (Nat.le_of_ble_eq_true rfl) (Nat.le_of_ble_eq_true rfl) (c_isName (i := 7) tp to h2 h3 hse he (by decide) (fun c7 g7 i7 => ⟨_, rfl, ?_⟩))
                refine Zp.if_eqN k_16_108 (by omega) (fun c_108 => ?_) (fun c_108 => ?_)
                · refine Zp.aload_n k_16_114 rfl ?_
                  refine Zp.getR k_16_115 rfl (zlt rfl) m_15 r_15_4 ?_
                  refine Zp.ldcT 8 (by decide) k_16_118 rfl rfl ?_
                  refine Zp.callv1I v_72 k_16_120 m_29 (Nat.le_of_ble_eq_true rfl) (Nat.le_of_ble_eq_true rfl) (c_isName (i := 8) tp to h2 h3 hse he (by decide) (fun c8 g8 i8 => ⟨_, rfl, ?_⟩))
                  refine Zp.if_eqN k_16_123 (by omega) (fun c_123 => ?_) (fun c_123 => ?_)
                  · refine Zp.bipush (nI 9) k_16_131 (by decide) ?_
                    refine Zp.iret _ k_16_133 vr_16 rfl ?_
                    have n0 : ¬ nmB T s e 0 = true := fun z => by have := i0.mpr z; omega
                    have n1 : ¬ nmB T s e 1 = true := fun z => by have := i1.mpr z; omega
                    have n2 : ¬ nmB T s e 2 = true := fun z => by have := i2.mpr z; omega
                    have n3 : ¬ nmB T s e 3 = true := fun z => by have := i3.mpr z; omega
                    have n4 : ¬ nmB T s e 4 = true := fun z => by have := i4.mpr z; omega
                    have n5 : ¬ nmB T s e 5 = true := fun z => by have := i5.mpr z; omega
                    have n6 : ¬ nmB T s e 6 = true := fun z => by have := i6.mpr z; omega
                    have n7 : ¬ nmB T s e 7 = true := fun z => by have := i7.mpr z; omega
                    refine zqN hq ?_
                    unfold nmK
                    rw [if_neg n0, if_neg n1, if_neg n2, if_neg n3, if_neg n4, if_neg n5, if_neg n6, if_neg n7]
                    first | rw [if_pos (i8.mp (by omega))] | (rw [if_neg (fun z => by have := i8.mpr z; omega)])
                  · refine Zp.bipush (nI 8) k_16_126 (by decide) ?_
                    refine Zp.goto k_16_128 ?_
                    refine Zp.iret _ k_16_133 vr_16 rfl ?_
                    have n0 : ¬ nmB T s e 0 = true := fun z => by have := i0.mpr z; omega
                    have n1 : ¬ nmB T s e 1 = true := fun z => by have := i1.mpr z; omega
                    have n2 : ¬ nmB T s e 2 = true := fun z => by have := i2.mpr z; omega
                    have n3 : ¬ nmB T s e 3 = true := fun z => by have := i3.mpr z; omega
                    have n4 : ¬ nmB T s e 4 = true := fun z => by have := i4.mpr z; omega
                    have n5 : ¬ nmB T s e 5 = true := fun z => by have := i5.mpr z; omega
                    have n6 : ¬ nmB T s e 6 = true := fun z => by have := i6.mpr z; omega
                    have n7 : ¬ nmB T s e 7 = true := fun z => by have := i7.mpr z; omega
                    refine zqN hq ?_
                    unfold nmK
                    rw [if_neg n0, if_neg n1, if_neg n2, if_neg n3, if_neg n4, if_neg n5, if_neg n6, if_neg n7]
                    first | rw [if_pos (i8.mp (by omega))] | (rw [if_neg (fun z => by have := i8.mpr z; omega)])
                · refine Zp.bipush (nI 7) k_16_111 (by decide) ?_
                  refine Zp.iret _ k_16_113 vr_16 rfl ?_
                  have n0 : ¬ nmB T s e 0 = true := fun z => by have := i0.mpr z; omega
                  have n1 : ¬ nmB T s e 1 = true := fun z => by have := i1.mpr z; omega
                  have n2 : ¬ nmB T s e 2 = true := fun z => by have := i2.mpr z; omega
                  have n3 : ¬ nmB T s e 3 = true := fun z => by have := i3.mpr z; omega
                  have n4 : ¬ nmB T s e 4 = true := fun z => by have := i4.mpr z; omega
                  have n5 : ¬ nmB T s e 5 = true := fun z => by have := i5.mpr z; omega
                  have n6 : ¬ nmB T s e 6 = true := fun z => by have := i6.mpr z; omega
                  refine zqN hq ?_
                  unfold nmK
                  rw [if_neg n0, if_neg n1, if_neg n2, if_neg n3, if_neg n4, if_neg n5, if_neg n6, if_pos (i7.mp (by omega))]
              · refine Zp.bipush (nI 6) k_16_96 (by decide) ?_
                refine Zp.iret _ k_16_98 vr_16 rfl ?_
                have n0 : ¬ nmB T s e 0 = true := fun z => by have := i0.mpr z; omega
                have n1 : ¬ nmB T s e 1 = true := fun z => by have := i1.mpr z; omega
                have n2 : ¬ nmB T s e 2 = true := fun z => by have := i2.mpr z; omega
                have n3 : ¬ nmB T s e 3 = true := fun z => by have := i3.mpr z; omega
                have n4 : ¬ nmB T s e 4 = true := fun z => by have := i4.mpr z; omega
                have n5 : ¬ nmB T s e 5 = true := fun z => by have := i5.mpr z; omega
                refine zqN hq ?_
                unfold nmK
                rw [if_neg n0, if_neg n1, if_neg n2, if_neg n3, if_neg n4, if_neg n5, if_pos (i6.mp (by omega))]
            · refine Zp.iconst (nI 5) k_16_82 (by decide) ?_
              refine Zp.iret _ k_16_83 vr_16 rfl ?_
              have n0 : ¬ nmB T s e 0 = true := fun z => by have := i0.mpr z; omega
              have n1 : ¬ nmB T s e 1 = true := fun z => by have := i1.mpr z; omega
              have n2 : ¬ nmB T s e 2 = true := fun z => by have := i2.mpr z; omega
              have n3 : ¬ nmB T s e 3 = true := fun z => by have := i3.mpr z; omega
              have n4 : ¬ nmB T s e 4 = true := fun z => by have := i4.mpr z; omega
              refine zqN hq ?_
              unfold nmK
              rw [if_neg n0, if_neg n1, if_neg n2, if_neg n3, if_neg n4, if_pos (i5.mp (by omega))]
          · refine Zp.iconst (nI 4) k_16_68 (by decide) ?_
            refine Zp.iret _ k_16_69 vr_16 rfl ?_
            have n0 : ¬ nmB T s e 0 = true := fun z => by have := i0.mpr z; omega
            have n1 : ¬ nmB T s e 1 = true := fun z => by have := i1.mpr z; omega
            have n2 : ¬ nmB T s e 2 = true := fun z => by have := i2.mpr z; omega
            have n3 : ¬ nmB T s e 3 = true := fun z => by have := i3.mpr z; omega
            refine zqN hq ?_
            unfold nmK
            rw [if_neg n0, if_neg n1, if_neg n2, if_neg n3, if_pos (i4.mp (by omega))]
        · refine Zp.iconst (nI 3) k_16_54 (by decide) ?_
          refine Zp.iret _ k_16_55 vr_16 rfl ?_
          have n0 : ¬ nmB T s e 0 = true := fun z => by have := i0.mpr z; omega
          have n1 : ¬ nmB T s e 1 = true := fun z => by have := i1.mpr z; omega
          have n2 : ¬ nmB T s e 2 = true := fun z => by have := i2.mpr z; omega
          refine zqN hq ?_
          unfold nmK
          rw [if_neg n0, if_neg n1, if_neg n2, if_pos (i3.mp (by omega))]
      · refine Zp.iconst (nI 2) k_16_40 (by decide) ?_
        refine Zp.iret _ k_16_41 vr_16 rfl ?_
        have n0 : ¬ nmB T s e 0 = true := fun z => by have := i0.mpr z; omega
        have n1 : ¬ nmB T s e 1 = true := fun z => by have := i1.mpr z; omega
        refine zqN hq ?_
        unfold nmK
        rw [if_neg n0, if_neg n1, if_pos (i2.mp (by omega))]
    · refine Zp.iconst (nI 1) k_16_26 (by decide) ?_
      refine Zp.iret _ k_16_27 vr_16 rfl ?_
      have n0 : ¬ nmB T s e 0 = true := fun z => by have := i0.mpr z; omega
      refine zqN hq ?_
      unfold nmK
      rw [if_neg n0, if_pos (i1.mp (by omega))]
  · refine Zp.iconst (nI 0) k_16_12 (by decide) ?_
    refine Zp.iret _ k_16_13 vr_16 rfl ?_
    refine zqN hq ?_
    unfold nmK
    rw [if_pos (i0.mp (by omega))]
theorem lneS_k (T : zTp) (D : zD) (s k p : Nat) (h : k ≤ 3) : lneS T D s k p = hlpS s D k p := by
  unfold lneS
  rw [if_neg (by omega), if_neg (by omega), if_neg (by omega), if_neg (by omega), if_neg (by omega), if_neg (by omega)]
theorem c_readLineC (dc : DC I D) (do_ : Do D) (tp : Tp I T) (to : To T) (hp : p ≤ T.1) (h2 : I 29 2 = nI (tok T p).2.1) (h3 : I 29 3 = nI (tok T p).2.2) (hk3 : ¬ (tok T p).1 = 3)
    (hbad : ∀ c s' I', lnS T D (tok T p) = .inl (c, s') → I' 15 2 = nI c → I' 15 3 = nI s' → FrD I I' → Q (some (.int (nI 0))) I' L)
    (hok : ∀ D' p' I', lnS T D (tok T p) = .inr (D', p') → DC I' D' → I' 29 3 = nI p' → FrO I I' → Q (some (.int (nI 1))) I' L) : Zm G 15 [.ref 15, .int (nI (tok T p).1)] I L Q := by
  have t := tok_ok T hp
  obtain ⟨k, hk⟩ : ∃ k, (tok T p).1 = k := ⟨_, rfl⟩
  obtain ⟨s, hs⟩ : ∃ s, (tok T p).2.1 = s := ⟨_, rfl⟩
  obtain ⟨e, he⟩ : ∃ e, (tok T p).2.2 = e := ⟨_, rfl⟩
  rw [hk] at hk3 t ⊢
  rw [hs] at h2 t
  rw [he] at h3 t
  have e4 : k = 4 → lnS T D (tok T p) = .inl (1, s) := fun z => by unfold lnS; rw [hk, hs, if_pos z]
  have e2 : ¬ k = 4 → ¬ k = 0 → lnS T D (tok T p) = .inl (2, s) := fun z z2 => by unfold lnS; rw [hk, hs, if_neg z, if_pos z2]
  have e0 : k = 0 → lnS T D (tok T p) = sbd (lneS T D s (nmK T s e) e) fun y => sbd (smc T y.2) fun e => .inr (y.1, e) := fun z => by
    unfold lnS
    rw [hk, hs, he, if_neg (by omega), if_neg (fun w => w z)]
  have bad4 : ∀ I2, k = 4 → I2 15 2 = nI 1 → I2 15 3 = nI s → FrX I I2 → Zp G 15 10 [some (.ref 15), some (.int (nI k)), none] [.int (nI 0)] I2 L Q := by
    intro I2 z a b f2
    refine Zp.iret _ k_15_10 vr_15 rfl ?_
    exact hbad 1 s I2 (e4 z) a b f2.y.d
  have badO : ∀ I2 (x : Int32), lnS T D (tok T p) = .inl (2, s) → I2 15 2 = nI 2 → I2 15 3 = nI s → FrX I I2 → Zp G 15 69 [some (.ref 15), some (.int (nI k)), some (.int x)] [.int (nI 0)] I2 L Q := by
    intro I2 x z a b f2
    refine Zp.iret _ k_15_69 vr_15 rfl ?_
    exact hbad 2 s I2 z a b f2.y.d
  have bd4 : ∀ l c s' I2, k = 0 → nmK T s e = l → lneS T D s l e = .inl (c, s') → I2 15 2 = nI c → I2 15 3 = nI s' → FrD I I2 → Zp G 15 75 [some (.ref 15), some (.int (nI k)), some (.int (nI l))] [.int (nI 0)] I2 L Q := by
    intro l c s' I2 hk0 hl hr a b f2
    subst hl
    refine Zp.if_eqN k_15_75 (by omega) (fun _ => ?_) (fun c => absurd c (by decide))
    refine Zp.iconst (nI 0) k_15_89 (by decide) ?_
    refine Zp.iret _ k_15_90 vr_15 rfl ?_
    exact hbad c s' I2 ((e0 hk0).trans (sbd_l hr)) a b f2
  have bs4 : ∀ l c s' I2, lnS T D (tok T p) = .inl (c, s') → I2 15 2 = nI c → I2 15 3 = nI s' → FrD I I2 → Zp G 15 82 [some (.ref 15), some (.int (nI k)), some (.int (nI l))] [.int (nI 0)] I2 L Q := by
    intro l c s' I2 hr a b f2
    refine Zp.if_eqN k_15_82 (by omega) (fun _ => ?_) (fun c => absurd c (by decide))
    refine Zp.iconst (nI 0) k_15_89 (by decide) ?_
    refine Zp.iret _ k_15_90 vr_15 rfl ?_
    exact hbad c s' I2 hr a b f2
  have os4 : ∀ l D' p' I2, lnS T D (tok T p) = .inr (D', p') → DC I2 D' → I2 29 3 = nI p' → FrO I I2 → Zp G 15 82 [some (.ref 15), some (.int (nI k)), some (.int (nI l))] [.int (nI 1)] I2 L Q := by
    intro l D' p' I2 hr a b f2
    refine Zp.if_eqN k_15_82 (by omega) (fun c => absurd c (by decide)) (fun _ => ?_)
    refine Zp.iconst (nI 1) k_15_85 (by decide) ?_
    refine Zp.goto k_15_86 ?_
    refine Zp.iret _ k_15_90 vr_15 rfl ?_
    exact hok D' p' I2 hr a b f2
  have ok4 : ∀ l D' p' I2, k = 0 → nmK T s e = l → lneS T D s l e = .inr (D', p') → p' ≤ T.1 → DC I2 D' → I2 29 3 = nI p' → FrO I I2 → Zp G 15 75 [some (.ref 15), some (.int (nI k)), some (.int (nI l))] [.int (nI 1)] I2 L Q := by
    intro l D' p' I2 hk0 hl hr hp' dc2 g3 f2
    subst hl
    refine Zp.if_eqN k_15_75 (by omega) (fun c => absurd c (by decide)) (fun _ => ?_)
    refine Zp.aload_n k_15_78 rfl ?_
    refine Zp.callv0I v_24 k_15_79 m_15 (Nat.le_of_ble_eq_true rfl) (Nat.le_of_ble_eq_true rfl) (c_readSemiC (tp.d f2.1) to hp' g3 (fun c s' I3 hr2 a b f3 => ⟨_, rfl, bs4 _ c s' I3 ((e0 hk0).trans ((sbd_r hr).trans (sbd_l hr2))) a b (f2.1.tr f3.y.d)⟩) (fun p2 I3 hr2 h3' f3 e3 => ⟨_, rfl, os4 _ D' p2 I3 ((e0 hk0).trans ((sbd_r hr).trans (sbd_r hr2))) (dc2.x f3) h3' (f2.tr (f3.o e3))⟩))
    
  have bd5 : ∀ l c s' I2, k = 0 → nmK T s e = l → lneS T D s l e = .inl (c, s') → I2 15 2 = nI c → I2 15 3 = nI s' → FrD I I2 → Zp G 15 96 [some (.ref 15), some (.int (nI k)), some (.int (nI l))] [.int (nI 0)] I2 L Q := by
    intro l c s' I2 hk0 hl hr a b f2
    subst hl
    refine Zp.if_eqN k_15_96 (by omega) (fun _ => ?_) (fun c => absurd c (by decide))
    refine Zp.iconst (nI 0) k_15_110 (by decide) ?_
    refine Zp.iret _ k_15_111 vr_15 rfl ?_
    exact hbad c s' I2 ((e0 hk0).trans (sbd_l hr)) a b f2
  have bs5 : ∀ l c s' I2, lnS T D (tok T p) = .inl (c, s') → I2 15 2 = nI c → I2 15 3 = nI s' → FrD I I2 → Zp G 15 103 [some (.ref 15), some (.int (nI k)), some (.int (nI l))] [.int (nI 0)] I2 L Q := by
    intro l c s' I2 hr a b f2
    refine Zp.if_eqN k_15_103 (by omega) (fun _ => ?_) (fun c => absurd c (by decide))
    refine Zp.iconst (nI 0) k_15_110 (by decide) ?_
    refine Zp.iret _ k_15_111 vr_15 rfl ?_
    exact hbad c s' I2 hr a b f2
  have os5 : ∀ l D' p' I2, lnS T D (tok T p) = .inr (D', p') → DC I2 D' → I2 29 3 = nI p' → FrO I I2 → Zp G 15 103 [some (.ref 15), some (.int (nI k)), some (.int (nI l))] [.int (nI 1)] I2 L Q := by
    intro l D' p' I2 hr a b f2
    refine Zp.if_eqN k_15_103 (by omega) (fun c => absurd c (by decide)) (fun _ => ?_)
    refine Zp.iconst (nI 1) k_15_106 (by decide) ?_
    refine Zp.goto k_15_107 ?_
    refine Zp.iret _ k_15_111 vr_15 rfl ?_
    exact hok D' p' I2 hr a b f2
  have ok5 : ∀ l D' p' I2, k = 0 → nmK T s e = l → lneS T D s l e = .inr (D', p') → p' ≤ T.1 → DC I2 D' → I2 29 3 = nI p' → FrO I I2 → Zp G 15 96 [some (.ref 15), some (.int (nI k)), some (.int (nI l))] [.int (nI 1)] I2 L Q := by
    intro l D' p' I2 hk0 hl hr hp' dc2 g3 f2
    subst hl
    refine Zp.if_eqN k_15_96 (by omega) (fun c => absurd c (by decide)) (fun _ => ?_)
    refine Zp.aload_n k_15_99 rfl ?_
    refine Zp.callv0I v_24 k_15_100 m_15 (Nat.le_of_ble_eq_true rfl) (Nat.le_of_ble_eq_true rfl) (c_readSemiC (tp.d f2.1) to hp' g3 (fun c s' I3 hr2 a b f3 => ⟨_, rfl, bs5 _ c s' I3 ((e0 hk0).trans ((sbd_r hr).trans (sbd_l hr2))) a b (f2.1.tr f3.y.d)⟩) (fun p2 I3 hr2 h3' f3 e3 => ⟨_, rfl, os5 _ D' p2 I3 ((e0 hk0).trans ((sbd_r hr).trans (sbd_r hr2))) (dc2.x f3) h3' (f2.tr (f3.o e3))⟩))
    
  have bd6 : ∀ l c s' I2, k = 0 → nmK T s e = l → lneS T D s l e = .inl (c, s') → I2 15 2 = nI c → I2 15 3 = nI s' → FrD I I2 → Zp G 15 116 [some (.ref 15), some (.int (nI k)), some (.int (nI l))] [.int (nI 0)] I2 L Q := by
    intro l c s' I2 hk0 hl hr a b f2
    subst hl
    refine Zp.if_eqN k_15_116 (by omega) (fun _ => ?_) (fun c => absurd c (by decide))
    refine Zp.iconst (nI 0) k_15_130 (by decide) ?_
    refine Zp.iret _ k_15_131 vr_15 rfl ?_
    exact hbad c s' I2 ((e0 hk0).trans (sbd_l hr)) a b f2
  have bs6 : ∀ l c s' I2, lnS T D (tok T p) = .inl (c, s') → I2 15 2 = nI c → I2 15 3 = nI s' → FrD I I2 → Zp G 15 123 [some (.ref 15), some (.int (nI k)), some (.int (nI l))] [.int (nI 0)] I2 L Q := by
    intro l c s' I2 hr a b f2
    refine Zp.if_eqN k_15_123 (by omega) (fun _ => ?_) (fun c => absurd c (by decide))
    refine Zp.iconst (nI 0) k_15_130 (by decide) ?_
    refine Zp.iret _ k_15_131 vr_15 rfl ?_
    exact hbad c s' I2 hr a b f2
  have os6 : ∀ l D' p' I2, lnS T D (tok T p) = .inr (D', p') → DC I2 D' → I2 29 3 = nI p' → FrO I I2 → Zp G 15 123 [some (.ref 15), some (.int (nI k)), some (.int (nI l))] [.int (nI 1)] I2 L Q := by
    intro l D' p' I2 hr a b f2
    refine Zp.if_eqN k_15_123 (by omega) (fun c => absurd c (by decide)) (fun _ => ?_)
    refine Zp.iconst (nI 1) k_15_126 (by decide) ?_
    refine Zp.goto k_15_127 ?_
    refine Zp.iret _ k_15_131 vr_15 rfl ?_
    exact hok D' p' I2 hr a b f2
  have ok6 : ∀ l D' p' I2, k = 0 → nmK T s e = l → lneS T D s l e = .inr (D', p') → p' ≤ T.1 → DC I2 D' → I2 29 3 = nI p' → FrO I I2 → Zp G 15 116 [some (.ref 15), some (.int (nI k)), some (.int (nI l))] [.int (nI 1)] I2 L Q := by
    intro l D' p' I2 hk0 hl hr hp' dc2 g3 f2
    subst hl
    refine Zp.if_eqN k_15_116 (by omega) (fun c => absurd c (by decide)) (fun _ => ?_)
    refine Zp.aload_n k_15_119 rfl ?_
    refine Zp.callv0I v_24 k_15_120 m_15 (Nat.le_of_ble_eq_true rfl) (Nat.le_of_ble_eq_true rfl) (c_readSemiC (tp.d f2.1) to hp' g3 (fun c s' I3 hr2 a b f3 => ⟨_, rfl, bs6 _ c s' I3 ((e0 hk0).trans ((sbd_r hr).trans (sbd_l hr2))) a b (f2.1.tr f3.y.d)⟩) (fun p2 I3 hr2 h3' f3 e3 => ⟨_, rfl, os6 _ D' p2 I3 ((e0 hk0).trans ((sbd_r hr).trans (sbd_r hr2))) (dc2.x f3) h3' (f2.tr (f3.o e3))⟩))
    
  have bd7 : ∀ l c s' I2, k = 0 → nmK T s e = l → lneS T D s l e = .inl (c, s') → I2 15 2 = nI c → I2 15 3 = nI s' → FrD I I2 → Zp G 15 136 [some (.ref 15), some (.int (nI k)), some (.int (nI l))] [.int (nI 0)] I2 L Q := by
    intro l c s' I2 hk0 hl hr a b f2
    subst hl
    refine Zp.if_eqN k_15_136 (by omega) (fun _ => ?_) (fun c => absurd c (by decide))
    refine Zp.iconst (nI 0) k_15_150 (by decide) ?_
    refine Zp.iret _ k_15_151 vr_15 rfl ?_
    exact hbad c s' I2 ((e0 hk0).trans (sbd_l hr)) a b f2
  have bs7 : ∀ l c s' I2, lnS T D (tok T p) = .inl (c, s') → I2 15 2 = nI c → I2 15 3 = nI s' → FrD I I2 → Zp G 15 143 [some (.ref 15), some (.int (nI k)), some (.int (nI l))] [.int (nI 0)] I2 L Q := by
    intro l c s' I2 hr a b f2
    refine Zp.if_eqN k_15_143 (by omega) (fun _ => ?_) (fun c => absurd c (by decide))
    refine Zp.iconst (nI 0) k_15_150 (by decide) ?_
    refine Zp.iret _ k_15_151 vr_15 rfl ?_
    exact hbad c s' I2 hr a b f2
  have os7 : ∀ l D' p' I2, lnS T D (tok T p) = .inr (D', p') → DC I2 D' → I2 29 3 = nI p' → FrO I I2 → Zp G 15 143 [some (.ref 15), some (.int (nI k)), some (.int (nI l))] [.int (nI 1)] I2 L Q := by
    intro l D' p' I2 hr a b f2
    refine Zp.if_eqN k_15_143 (by omega) (fun c => absurd c (by decide)) (fun _ => ?_)
    refine Zp.iconst (nI 1) k_15_146 (by decide) ?_
    refine Zp.goto k_15_147 ?_
    refine Zp.iret _ k_15_151 vr_15 rfl ?_
    exact hok D' p' I2 hr a b f2
  have ok7 : ∀ l D' p' I2, k = 0 → nmK T s e = l → lneS T D s l e = .inr (D', p') → p' ≤ T.1 → DC I2 D' → I2 29 3 = nI p' → FrO I I2 → Zp G 15 136 [some (.ref 15), some (.int (nI k)), some (.int (nI l))] [.int (nI 1)] I2 L Q := by
    intro l D' p' I2 hk0 hl hr hp' dc2 g3 f2
    subst hl
    refine Zp.if_eqN k_15_136 (by omega) (fun c => absurd c (by decide)) (fun _ => ?_)
    refine Zp.aload_n k_15_139 rfl ?_
    refine Zp.callv0I v_24 k_15_140 m_15 (Nat.le_of_ble_eq_true rfl) (Nat.le_of_ble_eq_true rfl) (c_readSemiC (tp.d f2.1) to hp' g3 (fun c s' I3 hr2 a b f3 => ⟨_, rfl, bs7 _ c s' I3 ((e0 hk0).trans ((sbd_r hr).trans (sbd_l hr2))) a b (f2.1.tr f3.y.d)⟩) (fun p2 I3 hr2 h3' f3 e3 => ⟨_, rfl, os7 _ D' p2 I3 ((e0 hk0).trans ((sbd_r hr).trans (sbd_r hr2))) (dc2.x f3) h3' (f2.tr (f3.o e3))⟩))
    
  have bd8 : ∀ l c s' I2, k = 0 → nmK T s e = l → lneS T D s l e = .inl (c, s') → I2 15 2 = nI c → I2 15 3 = nI s' → FrD I I2 → Zp G 15 156 [some (.ref 15), some (.int (nI k)), some (.int (nI l))] [.int (nI 0)] I2 L Q := by
    intro l c s' I2 hk0 hl hr a b f2
    subst hl
    refine Zp.if_eqN k_15_156 (by omega) (fun _ => ?_) (fun c => absurd c (by decide))
    refine Zp.iconst (nI 0) k_15_170 (by decide) ?_
    refine Zp.iret _ k_15_171 vr_15 rfl ?_
    exact hbad c s' I2 ((e0 hk0).trans (sbd_l hr)) a b f2
  have bs8 : ∀ l c s' I2, lnS T D (tok T p) = .inl (c, s') → I2 15 2 = nI c → I2 15 3 = nI s' → FrD I I2 → Zp G 15 163 [some (.ref 15), some (.int (nI k)), some (.int (nI l))] [.int (nI 0)] I2 L Q := by
    intro l c s' I2 hr a b f2
    refine Zp.if_eqN k_15_163 (by omega) (fun _ => ?_) (fun c => absurd c (by decide))
    refine Zp.iconst (nI 0) k_15_170 (by decide) ?_
    refine Zp.iret _ k_15_171 vr_15 rfl ?_
    exact hbad c s' I2 hr a b f2
  have os8 : ∀ l D' p' I2, lnS T D (tok T p) = .inr (D', p') → DC I2 D' → I2 29 3 = nI p' → FrO I I2 → Zp G 15 163 [some (.ref 15), some (.int (nI k)), some (.int (nI l))] [.int (nI 1)] I2 L Q := by
    intro l D' p' I2 hr a b f2
    refine Zp.if_eqN k_15_163 (by omega) (fun c => absurd c (by decide)) (fun _ => ?_)
    refine Zp.iconst (nI 1) k_15_166 (by decide) ?_
    refine Zp.goto k_15_167 ?_
    refine Zp.iret _ k_15_171 vr_15 rfl ?_
    exact hok D' p' I2 hr a b f2
  have ok8 : ∀ l D' p' I2, k = 0 → nmK T s e = l → lneS T D s l e = .inr (D', p') → p' ≤ T.1 → DC I2 D' → I2 29 3 = nI p' → FrO I I2 → Zp G 15 156 [some (.ref 15), some (.int (nI k)), some (.int (nI l))] [.int (nI 1)] I2 L Q := by
    intro l D' p' I2 hk0 hl hr hp' dc2 g3 f2
    subst hl
    refine Zp.if_eqN k_15_156 (by omega) (fun c => absurd c (by decide)) (fun _ => ?_)
    refine Zp.aload_n k_15_159 rfl ?_
    refine Zp.callv0I v_24 k_15_160 m_15 (Nat.le_of_ble_eq_true rfl) (Nat.le_of_ble_eq_true rfl) (c_readSemiC (tp.d f2.1) to hp' g3 (fun c s' I3 hr2 a b f3 => ⟨_, rfl, bs8 _ c s' I3 ((e0 hk0).trans ((sbd_r hr).trans (sbd_l hr2))) a b (f2.1.tr f3.y.d)⟩) (fun p2 I3 hr2 h3' f3 e3 => ⟨_, rfl, os8 _ D' p2 I3 ((e0 hk0).trans ((sbd_r hr).trans (sbd_r hr2))) (dc2.x f3) h3' (f2.tr (f3.o e3))⟩))
    
  have bd0 : ∀ l c s' I2, k = 0 → nmK T s e = l → lneS T D s l e = .inl (c, s') → I2 15 2 = nI c → I2 15 3 = nI s' → FrD I I2 → Zp G 15 177 [some (.ref 15), some (.int (nI k)), some (.int (nI l))] [.int (nI 0)] I2 L Q := by
    intro l c s' I2 hk0 hl hr a b f2
    subst hl
    refine Zp.if_eqN k_15_177 (by omega) (fun _ => ?_) (fun c => absurd c (by decide))
    refine Zp.iconst (nI 0) k_15_191 (by decide) ?_
    refine Zp.iret _ k_15_192 vr_15 rfl ?_
    exact hbad c s' I2 ((e0 hk0).trans (sbd_l hr)) a b f2
  have bs0 : ∀ l c s' I2, lnS T D (tok T p) = .inl (c, s') → I2 15 2 = nI c → I2 15 3 = nI s' → FrD I I2 → Zp G 15 184 [some (.ref 15), some (.int (nI k)), some (.int (nI l))] [.int (nI 0)] I2 L Q := by
    intro l c s' I2 hr a b f2
    refine Zp.if_eqN k_15_184 (by omega) (fun _ => ?_) (fun c => absurd c (by decide))
    refine Zp.iconst (nI 0) k_15_191 (by decide) ?_
    refine Zp.iret _ k_15_192 vr_15 rfl ?_
    exact hbad c s' I2 hr a b f2
  have os0 : ∀ l D' p' I2, lnS T D (tok T p) = .inr (D', p') → DC I2 D' → I2 29 3 = nI p' → FrO I I2 → Zp G 15 184 [some (.ref 15), some (.int (nI k)), some (.int (nI l))] [.int (nI 1)] I2 L Q := by
    intro l D' p' I2 hr a b f2
    refine Zp.if_eqN k_15_184 (by omega) (fun c => absurd c (by decide)) (fun _ => ?_)
    refine Zp.iconst (nI 1) k_15_187 (by decide) ?_
    refine Zp.goto k_15_188 ?_
    refine Zp.iret _ k_15_192 vr_15 rfl ?_
    exact hok D' p' I2 hr a b f2
  have ok0 : ∀ l D' p' I2, k = 0 → nmK T s e = l → lneS T D s l e = .inr (D', p') → p' ≤ T.1 → DC I2 D' → I2 29 3 = nI p' → FrO I I2 → Zp G 15 177 [some (.ref 15), some (.int (nI k)), some (.int (nI l))] [.int (nI 1)] I2 L Q := by
    intro l D' p' I2 hk0 hl hr hp' dc2 g3 f2
    subst hl
    refine Zp.if_eqN k_15_177 (by omega) (fun c => absurd c (by decide)) (fun _ => ?_)
    refine Zp.aload_n k_15_180 rfl ?_
    refine Zp.callv0I v_24 k_15_181 m_15 (Nat.le_of_ble_eq_true rfl) (Nat.le_of_ble_eq_true rfl) (c_readSemiC (tp.d f2.1) to hp' g3 (fun c s' I3 hr2 a b f3 => ⟨_, rfl, bs0 _ c s' I3 ((e0 hk0).trans ((sbd_r hr).trans (sbd_l hr2))) a b (f2.1.tr f3.y.d)⟩) (fun p2 I3 hr2 h3' f3 e3 => ⟨_, rfl, os0 _ D' p2 I3 ((e0 hk0).trans ((sbd_r hr).trans (sbd_r hr2))) (dc2.x f3) h3' (f2.tr (f3.o e3))⟩))
    
  have lines : k = 0 → Zp G 15 24 [some (.ref 15), some (.int (nI k)), none] [.int (nI (nmK T s e))] I L Q := by
    intro hk0
    have tse := t.2.2.2.2.2.2.2.2 (by omega)
    have nle := nmK_le T s e
    obtain ⟨l, hl⟩ : ∃ l, nmK T s e = l := ⟨_, rfl⟩
    rw [hl] at nle ⊢
    have lok : ∀ D' p', lneS T D s l e = .inr (D', p') → p' ≤ T.1 := fun D' p' h => (lneS_ok (by omega) nle do_ h).2.2
    refine Zp.istore_n [some (.ref _), some (.int _), some (.int _)] k_15_24 (Nat.lt_of_lt_of_eq (zlt rfl : 2 < 3) vl_15.symm) rfl ?_
    refine Zp.iload_n k_15_25 rfl ?_
    refine Zp.tabEq _ 4 70 k_15_26 (nI_toInt (by omega)) (by decide) (by decide) rfl (by decide) (fun c_26_4 => ?_) (fun n_26_4 => ?_)
    · refine Zp.aload_n k_15_70 rfl ?_
      refine Zp.iconst (nI 0) k_15_71 (by decide) ?_
      refine Zp.callv1I v_18 k_15_72 m_15 (Nat.le_of_ble_eq_true rfl) (Nat.le_of_ble_eq_true rfl) (c_readHatredC0 dc do_ tp to (by omega) h3 (fun c s' I3 hr a b f3 => ⟨_, rfl, bd4 l c s' I3 hk0 hl (by rw [show l = 4 by omega]; exact hr) a b f3⟩) (fun D' p' I3 hr a b f3 => ⟨_, rfl, ok4 l D' p' I3 hk0 hl (by rw [show l = 4 by omega]; exact hr) (lok D' p' (by rw [show l = 4 by omega]; exact hr)) a b f3⟩))
      
    refine Zp.tabEq _ 5 91 k_15_26 (nI_toInt (by omega)) (by decide) (by decide) rfl (by decide) (fun c_26_5 => ?_) (fun n_26_5 => ?_)
    · refine Zp.aload_n k_15_91 rfl ?_
      refine Zp.iconst (nI 1) k_15_92 (by decide) ?_
      refine Zp.callv1I v_18 k_15_93 m_15 (Nat.le_of_ble_eq_true rfl) (Nat.le_of_ble_eq_true rfl) (c_readHatredC1 dc do_ tp to (by omega) h3 (fun c s' I3 hr a b f3 => ⟨_, rfl, bd5 l c s' I3 hk0 hl (by rw [show l = 5 by omega]; exact hr) a b f3⟩) (fun D' p' I3 hr a b f3 => ⟨_, rfl, ok5 l D' p' I3 hk0 hl (by rw [show l = 5 by omega]; exact hr) (lok D' p' (by rw [show l = 5 by omega]; exact hr)) a b f3⟩))
      
    refine Zp.tabEq _ 6 112 k_15_26 (nI_toInt (by omega)) (by decide) (by decide) rfl (by decide) (fun c_26_6 => ?_) (fun n_26_6 => ?_)
    · refine Zp.aload_n k_15_112 rfl ?_
      refine Zp.callv0I v_19 k_15_113 m_15 (Nat.le_of_ble_eq_true rfl) (Nat.le_of_ble_eq_true rfl) (c_readPotC dc do_ tp to (by omega) h2 h3 (fun c s' I3 hr a b f3 => ⟨_, rfl, bd6 l c s' I3 hk0 hl (by rw [show l = 6 by omega]; exact hr) a b f3⟩) (fun D' p' I3 hr a b f3 => ⟨_, rfl, ok6 l D' p' I3 hk0 hl (by rw [show l = 6 by omega]; exact hr) (lok D' p' (by rw [show l = 6 by omega]; exact hr)) a b f3⟩))
      
    refine Zp.tabEq _ 7 132 k_15_26 (nI_toInt (by omega)) (by decide) (by decide) rfl (by decide) (fun c_26_7 => ?_) (fun n_26_7 => ?_)
    · refine Zp.aload_n k_15_132 rfl ?_
      refine Zp.callv0I v_20 k_15_133 m_15 (Nat.le_of_ble_eq_true rfl) (Nat.le_of_ble_eq_true rfl) (c_readSlipC dc do_ tp to (by omega) h2 h3 (fun c s' I3 hr a b f3 => ⟨_, rfl, bd7 l c s' I3 hk0 hl (by rw [show l = 7 by omega]; exact hr) a b f3⟩) (fun D' p' I3 hr a b f3 => ⟨_, rfl, ok7 l D' p' I3 hk0 hl (by rw [show l = 7 by omega]; exact hr) (lok D' p' (by rw [show l = 7 by omega]; exact hr)) a b f3⟩))
      
    refine Zp.tabEq _ 8 152 k_15_26 (nI_toInt (by omega)) (by decide) (by decide) rfl (by decide) (fun c_26_8 => ?_) (fun n_26_8 => ?_)
    · refine Zp.aload_n k_15_152 rfl ?_
      refine Zp.callv0I v_21 k_15_153 m_15 (Nat.le_of_ble_eq_true rfl) (Nat.le_of_ble_eq_true rfl) (c_readPlanC dc do_ tp to (by omega) h2 h3 (fun c s' I3 hr a b f3 => ⟨_, rfl, bd8 l c s' I3 hk0 hl (by rw [show l = 8 by omega]; exact hr) a b f3⟩) (fun D' p' I3 hr a b f3 => ⟨_, rfl, ok8 l D' p' I3 hk0 hl (by rw [show l = 8 by omega]; exact hr) (lok D' p' (by rw [show l = 8 by omega]; exact hr)) a b f3⟩))
      
    refine Zp.tabEq _ 9 64 k_15_26 (nI_toInt (by omega)) (by decide) (by decide) rfl (by decide) (fun c_26_9 => ?_) (fun n_26_9 => ?_)
    · refine Zp.aload_n k_15_64 rfl ?_
      refine Zp.iconst (nI 2) k_15_65 (by decide) ?_
      refine Zp.callv1I v_25 k_15_66 m_15 (Nat.le_of_ble_eq_true rfl) (Nat.le_of_ble_eq_true rfl) (c_fails h2 (fun I3 a b f3 => ⟨_, rfl, badO I3 _ ((e0 hk0).trans (sbd_l (by rw [hl, show l = 9 by omega]; rfl))) a b f3⟩))
      
    refine Zp.tabNo _ 172 k_15_26 (nI_toInt (by omega)) (by omega) (by decide) ?_
    refine Zp.aload_n k_15_172 rfl ?_
    refine Zp.iload_n k_15_173 rfl ?_
    refine Zp.callv1I v_17 k_15_174 m_15 (Nat.le_of_ble_eq_true rfl) (Nat.le_of_ble_eq_true rfl) (c_addHelperC (p := e) dc do_ h2 (by omega) (fun c s' I3 hr a b f3 => ⟨_, rfl, bd0 l c s' I3 hk0 hl (by rw [lneS_k _ _ _ _ _ (by omega)]; exact hr) a b f3⟩) (fun I3 hr a b f3 => ⟨_, rfl, ok0 l _ e I3 hk0 hl (by rw [lneS_k _ _ _ _ _ (by omega)]; exact hr) (by omega) a (by rw [b]; exact h3) f3⟩))
    
  refine Zm.go [some (.ref _), some (.int _), none] vl_15 rfl ?_
  refine Zp.iload_n k_15_0 rfl ?_
  refine Zp.iconst (nI 4) k_15_1 (by decide) ?_
  refine Zp.icmp_neN k_15_2 (by omega) (by omega) (fun c_2 => ?_) (fun c_2 => ?_)
  · refine Zp.iload_n k_15_11 rfl ?_
    refine Zp.if_neN k_15_12 (by omega) (fun c_12 => ?_) (fun c_12 => ?_)
    · refine Zp.bipush (nI 9) k_15_22 (by decide) ?_
      first
        | exact lines (by omega)
        | (refine Zp.istore_n [some (.ref _), some (.int _), some (.int _)] k_15_24 (Nat.lt_of_lt_of_eq (zlt rfl : 2 < 3) vl_15.symm) rfl ?_
           refine Zp.iload_n k_15_25 rfl ?_
           refine Zp.tabEq 9 9 64 k_15_26 (by decide) (by decide) (by decide) rfl (by decide) (fun _ => ?_) (fun n => absurd rfl n)
           refine Zp.aload_n k_15_64 rfl ?_
           refine Zp.iconst (nI 2) k_15_65 (by decide) ?_
           refine Zp.callv1I v_25 k_15_66 m_15 (Nat.le_of_ble_eq_true rfl) (Nat.le_of_ble_eq_true rfl) (c_fails h2 (fun I3 a b f3 => ⟨_, rfl, badO I3 _ (e2 (by omega) (by omega)) a b f3⟩))
           skip)
    · refine Zp.aload_n k_15_15 rfl ?_
      refine Zp.callv0I v_16 k_15_16 m_15 (Nat.le_of_ble_eq_true rfl) (Nat.le_of_ble_eq_true rfl) (c_lineOfName tp to h2 h3 (by omega) (by omega) ⟨_, rfl, ?_⟩)
      refine Zp.goto k_15_19 ?_
      first
        | exact lines (by omega)
        | (refine Zp.istore_n [some (.ref _), some (.int _), some (.int _)] k_15_24 (Nat.lt_of_lt_of_eq (zlt rfl : 2 < 3) vl_15.symm) rfl ?_
           refine Zp.iload_n k_15_25 rfl ?_
           refine Zp.tabEq 9 9 64 k_15_26 (by decide) (by decide) (by decide) rfl (by decide) (fun _ => ?_) (fun n => absurd rfl n)
           refine Zp.aload_n k_15_64 rfl ?_
           refine Zp.iconst (nI 2) k_15_65 (by decide) ?_
           refine Zp.callv1I v_25 k_15_66 m_15 (Nat.le_of_ble_eq_true rfl) (Nat.le_of_ble_eq_true rfl) (c_fails h2 (fun I3 a b f3 => ⟨_, rfl, badO I3 _ (e2 (by omega) (by omega)) a b f3⟩))
           skip)
  · refine Zp.aload_n k_15_5 rfl ?_
    refine Zp.iconst (nI 1) k_15_6 (by decide) ?_
    refine Zp.callv1I v_25 k_15_7 m_15 (Nat.le_of_ble_eq_true rfl) (Nat.le_of_ble_eq_true rfl) (c_fails h2 (fun I3 a b f3 => ⟨_, rfl, bad4 I3 (by omega) a b f3⟩))
    
end LINES2
