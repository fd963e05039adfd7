/-! THE TEXT: a line of the reference -/
def full_ (D : zD) (l : Nat) : Prop := (l = 7 ∧ 6 ≤ lc (kP (dK D))) ∨ (l = 8 ∧ 8 ≤ (kU (dK D)).1) ∨ (l ≤ 3 ∧ 5 ≤ sn (kS (dK D)))
theorem lneS_full {T : zTp} {D : zD} {s l p : Nat} (h : full_ D l) : lneS T D s l p = .inl (5, s) := by
  rcases h with ⟨rfl, h⟩ | ⟨rfl, h⟩ | ⟨h1, h⟩
  · exact if_pos h
  · exact if_pos h
  · rw [lneS_k _ _ _ _ _ h1]
    exact if_pos h
theorem rdN4 {T : zTp} {lo hi p : Nat} (h : (tok T p).1 = 4) : rdN T lo hi p = .inl (1, (tok T p).2.1) := if_pos h
theorem rdH4 {T : zTp} {x : Int} {p : Nat} (h : (tok T p).1 = 4) : rdH T x p = .inl (1, (tok T p).2.1) := by unfold rdH; rw [rdN4 h]
theorem smc4 {T : zTp} {p : Nat} (h : (tok T p).1 = 4) : smc T p = .inl (1, (tok T p).2.1) := by
  unfold smc
  rw [if_neg (by omega), if_pos h]
theorem lneS_4 {T : zTp} {D : zD} {s l p : Nat} (h : (tok T p).1 = 4) (hl : l ≤ 8) (hf : ¬ full_ D l) (hp : ¬ (l = 6 ∧ dp D = 1)) :
    (sbd (lneS T D s l p) fun y => sbd (smc T y.2) fun e => (.inr (y.1, e) : Sum zFl (zD × Nat))) = .inl (1, (tok T p).2.1) := by
  unfold full_ at hf
  rcases (by omega : l ≤ 3 ∨ l = 4 ∨ l = 5 ∨ l = 6 ∨ l = 7 ∨ l = 8) with z | rfl | rfl | rfl | rfl | rfl
  · rw [lneS_k _ _ _ _ _ z]
    have e : hlpS s D l p = .inr (hlpD D l, p) := if_neg (by omega)
    exact (sbd_r e).trans (sbd_l (smc4 h))
  · have e : lneS T D s 4 p = .inl (1, (tok T p).2.1) := sbd_l (rdH4 h)
    exact sbd_l e
  · have e : lneS T D s 5 p = .inl (1, (tok T p).2.1) := sbd_l (rdH4 h)
    exact sbd_l e
  · have e : lneS T D s 6 p = .inl (1, (tok T p).2.1) := (show potS T s D p = .inl (1, (tok T p).2.1) from (if_neg (by omega)).trans (sbd_l (rdN4 h)))
    exact sbd_l e
  · have e : lneS T D s 7 p = .inl (1, (tok T p).2.1) := (show slpS T s D p = .inl (1, (tok T p).2.1) from (if_neg (by omega)).trans (sbd_l (rdH4 h)))
    exact sbd_l e
  · have e : lneS T D s 8 p = .inl (1, (tok T p).2.1) := (show plnS T s D p = .inl (1, (tok T p).2.1) from (if_neg (by omega)).trans (sbd_l (rdH4 h)))
    exact sbd_l e
section LINEM
variable {G : zG} {I : zI} {L : zJ} {Q : zP} {T : zTp} {D : zD} {p s e c l : Nat}
theorem c_readLineOfM (dm : DM I (dK D, dw D, if l = 6 then 1 else dp D, dh D)) (do_ : Do D) (tp : TpM I T) (to : To T) (hp : p ≤ T.1) (rt : RT I T p) (hl : l ≤ 8) (hf : ¬ full_ D l) (hpt : ¬ (l = 6 ∧ dp D = 1))
    (hbad : ∀ c s' I', lneS T D s l p = .inl (c, s') → FT I' c s' → FrB I I' → Q none I' L)
    (hok : ∀ D' p' I', lneS T D s l p = .inr (D', p') → (¬ (tok T p').1 = 4 → DM I' D') → RT I' T p' → FrB I I' → Q none I' L) : Zm G 151 [.ref 93, .int (nI l)] I L Q := by
  obtain ⟨d1, d2, d3, d4, d5, d6, d7, d8, d9⟩ := id do_
  have o1 := d1.1
  unfold full_ at hf
  have dmN : ¬ l = 6 → DM I D := fun z => by rw [if_neg z] at dm; exact dm
  have end0 : ∀ (I2 : zI), Q none I2 L → Zp G 151 120 [some (.ref 93), some (.int (nI l))] [] I2 L Q := by
    intro I2 h
    refine Zp.vret k_151_120 vr_151 ?_
    exact h
  have end50 : ∀ (I2 : zI), Q none I2 L → Zp G 151 50 [some (.ref 93), some (.int (nI l))] [] I2 L Q := by
    intro I2 h
    refine Zp.goto k_151_50 ?_
    exact end0 I2 h
  have end88 : ∀ (I2 : zI), Q none I2 L → Zp G 151 88 [some (.ref 93), some (.int (nI l))] [] I2 L Q := by
    intro I2 h
    refine Zp.goto k_151_88 ?_
    exact end0 I2 h
  have end95 : ∀ (I2 : zI), Q none I2 L → Zp G 151 95 [some (.ref 93), some (.int (nI l))] [] I2 L Q := by
    intro I2 h
    refine Zp.goto k_151_95 ?_
    exact end0 I2 h
  have potbad2 : ∀ c s' I2 (v : Int32), lneS T D s l p = .inl (c, s') → FT I2 c s' → FrB I I2 → Zp G 151 80 [some (.ref 93), some (.int (nI l))] [.int v, .int (nI 31), .ref 100] I2 L Q := by
    intro c s' I2 v he ft f2
    refine Zp.iast _ k_151_80 m_100 rfl (by omega) (zlt rfl) ?_
    refine Zp.goto k_151_81 ?_
    exact end0 _ (hbad c s' _ he (ft.row (by decide)) (f2.row _ (by decide)))
  have potbad1 : ∀ c s' I2, lneS T D s l p = .inl (c, s') → FT I2 c s' → FrB I I2 → Zp G 151 66 [some (.ref 93), some (.int (nI l))] [.int (nI 0), .int (nI 30), .ref 100] I2 L Q := by
    intro c s' I2 he ft f2
    refine Zp.iast _ k_151_66 m_100 rfl (by omega) (zlt rfl) ?_
    refine Zp.aload_n k_151_67 rfl ?_
    refine Zp.getR k_151_68 rfl (zlt rfl) m_93 r_93_8 ?_
    refine Zp.bipush (nI 31) k_151_71 (by decide) ?_
    refine Zp.aload_n k_151_73 rfl ?_
    refine Zp.iconst (nI 1) k_151_74 (by decide) ?_
    refine Zp.bipush (nI 12) k_151_75 (by decide) ?_
    refine Zp.callv2I v_144 k_151_77 m_93 (Nat.le_of_ble_eq_true rfl) (Nat.le_of_ble_eq_true rfl) (c_readNumberF (ft.row (by decide)) ⟨_, rfl, ?_⟩)
    exact potbad2 c s' _ _ he (ft.row (by decide)) (f2.row _ (by decide))
  have potok2 : ∀ n1 n2 p2 I2, l = 6 → lneS T D s l p = .inr (potD D n1 n2, p2) → RT I2 T p2 → DM I2 ((sUneed (kS (dK D)) n1, (dK D).2), dw D, 1, dh D) → FrB I I2 → Zp G 151 80 [some (.ref 93), some (.int (nI l))] [.int (nI n2), .int (nI 31), .ref 100] I2 L Q := by
    intro n1 n2 p2 I2 hl6 he rt2 dm2 f2
    obtain ⟨⟨m0, m1⟩, m2, m3, m4, m5, m6, m7, m8, m9⟩ := id dm2
    have mp3 : Mp (zpu I2 100 31 (nI n2) 100) (sUnoon (sUneed (kS (dK D)) n1) n2) := m0.u31 o1
    have dm3 : DM (zpu I2 100 31 (nI n2)) (potD D n1 n2) := ⟨⟨mp3, m1.fr d6.1 (by show (kE (dK D)).1 ≤ 6; omega) (fun j a _ => zpu_k _ _ _ (by omega))⟩, by rw [zpu_q _ _ _ (by decide)]; exact m2, by rw [zpu_q _ _ _ (by decide)]; exact m3, by rw [zpu_q _ _ _ (by decide)]; exact m4, by rw [zpu_q _ _ _ (by decide)]; exact m5, by rw [zpu_q _ _ _ (by decide)]; exact m6, by rw [zpu_q _ _ _ (by decide)]; exact m7, by rw [zpu_q _ _ _ (by decide)]; exact m8, by rw [zpu_q _ _ _ (by decide)]; exact m9⟩
    refine Zp.iast _ k_151_80 m_100 rfl (by omega) (zlt rfl) ?_
    refine Zp.goto k_151_81 ?_
    exact end0 _ (hok _ p2 _ he (fun _ => dm3) (rt2.row (by decide)) (f2.row _ (by decide)))
  have potok1 : ∀ n1 p1 I2, l = 6 → rdN T 1 99 p = .inr (n1, p1) → RT I2 T p1 → DM I2 (dK D, dw D, 1, dh D) → FrB I I2 → Zp G 151 66 [some (.ref 93), some (.int (nI l))] [.int (nI n1), .int (nI 30), .ref 100] I2 L Q := by
    intro n1 p1 I2 hl6 hr1 rt2 dm2 f2
    have r1 := rdN_ok hp hr1
    have he : lneS T D s l p = potS T s D p := by subst hl6; rfl
    have hn1 : ¬ dp D = 1 := fun z => hpt ⟨hl6, z⟩
    obtain ⟨⟨m0, m1⟩, m2, m3, m4, m5, m6, m7, m8, m9⟩ := id dm2
    have mp3 : Mp (zpu I2 100 30 (nI n1) 100) (sUneed (kS (dK D)) n1) := m0.u30 o1
    have f22 : FrB I (zpu I2 100 30 (nI n1)) := f2.row _ (by decide)
    have dm3 : DM (zpu I2 100 30 (nI n1)) ((sUneed (kS (dK D)) n1, (dK D).2), dw D, 1, dh D) := ⟨⟨mp3, m1.fr d6.1 (by show (kE (dK D)).1 ≤ 6; omega) (fun j a _ => zpu_k _ _ _ (by omega))⟩, by rw [zpu_q _ _ _ (by decide)]; exact m2, by rw [zpu_q _ _ _ (by decide)]; exact m3, by rw [zpu_q _ _ _ (by decide)]; exact m4, by rw [zpu_q _ _ _ (by decide)]; exact m5, by rw [zpu_q _ _ _ (by decide)]; exact m6, by rw [zpu_q _ _ _ (by decide)]; exact m7, by rw [zpu_q _ _ _ (by decide)]; exact m8, by rw [zpu_q _ _ _ (by decide)]; exact m9⟩
    refine Zp.iast _ k_151_66 m_100 rfl (by omega) (zlt rfl) ?_
    refine Zp.aload_n k_151_67 rfl ?_
    refine Zp.getR k_151_68 rfl (zlt rfl) m_93 r_93_8 ?_
    refine Zp.bipush (nI 31) k_151_71 (by decide) ?_
    refine Zp.aload_n k_151_73 rfl ?_
    refine Zp.iconst (nI 1) k_151_74 (by decide) ?_
    refine Zp.bipush (nI 12) k_151_75 (by decide) ?_
    refine Zp.callv2I v_144 k_151_77 m_93 (Nat.le_of_ble_eq_true rfl) (Nat.le_of_ble_eq_true rfl) (c_readNumberM (tp.b f22) to r1.2.2.2.1 (rt2.row (by decide)) (by decide) (by decide) (fun c s' I3 hr3 ft f3 => ⟨_, rfl, potbad2 c s' I3 _ (he.trans ((if_neg hn1).trans ((sbd_r hr1).trans (sbd_l hr3)))) ft (f22.tr f3.h.w.b)⟩) (fun n2 p2 I3 hr3 rt3 f3 => ⟨_, rfl, potok2 n1 n2 p2 I3 hl6 (he.trans ((if_neg hn1).trans ((sbd_r hr1).trans (sbd_r hr3)))) rt3 (dm3.n f3) (f22.tr f3.h.w.b)⟩))
    
  have hlp : ∀ (hl3 : l ≤ 3), Zp G 151 98 [some (.ref 93), some (.int (nI l))] [] I L Q := by
    intro hl3
    have he : lneS T D s l p = .inr (hlpD D l, p) := (lneS_k _ _ _ _ _ hl3).trans (if_neg (by omega))
    obtain ⟨⟨m0, m1⟩, m2, m3, m4, m5, m6, m7, m8, m9⟩ := dmN (by omega)
    refine Zp.aload_n k_151_98 rfl ?_
    refine Zp.getR k_151_99 rfl (zlt rfl) m_93 r_93_8 ?_
    refine Zp.iconst (nI 0) k_151_102 (by decide) ?_
    refine Zp.aload_n k_151_103 rfl ?_
    refine Zp.getV k_151_104 rfl (zlt rfl) m_93 (by first | exact m2 | exact ((congrFun (zpu_q I _ _ (by decide)) _).trans m2)) ?_
    refine Zp.iaddN k_151_107 ?_
    refine Zp.iload_n k_151_108 rfl ?_
    refine Zp.iast _ k_151_109 m_100 rfl (by omega) (zlt rfl) ?_
    refine Zp.aload_n k_151_110 rfl ?_
    refine Zp.dup k_151_111 rfl ?_
    refine Zp.getV k_151_112 rfl (zlt rfl) m_93 (by first | exact m2 | exact ((congrFun (zpu_q I _ _ (by decide)) _).trans m2)) ?_
    refine Zp.iconst (nI 1) k_151_115 (by decide) ?_
    refine Zp.iaddN k_151_116 ?_
    refine Zp.putI k_151_117 rfl (zlt rfl) m_93 ?_
    have mp3 : Mp (zpu (zpu I 100 (0 + sn (kS (dK D))) (nI l)) 93 9 (nI (sn (kS (dK D)) + 1)) 100) (kS (dK (hlpD D l))) := by
      obtain ⟨y1, y2, y3, y4, y5, y6, y7⟩ := m0
      rw [zpu_q _ _ _ (by decide)]
      refine ⟨fun a ha => ?_, fun j hj => by rw [zpu_k _ _ _ (by omega)]; exact y2 j hj, by rw [zpu_k _ _ _ (by omega)]; exact y3, by rw [zpu_k _ _ _ (by omega)]; exact y4, by rw [zpu_k _ _ _ (by omega)]; exact y5, by rw [zpu_k _ _ _ (by omega)]; exact y6, by rw [zpu_k _ _ _ (by omega)]; exact y7⟩
      have ha2 : a < sn (kS (dK D)) + 1 := ha
      show _ = nI (va_up (skd (kS (dK D))) (sn (kS (dK D))) l a)
      by_cases e : a = sn (kS (dK D))
      · subst e; rw [va_up_s, Nat.zero_add, zpu_s]
      · rw [va_up_n _ _ e, zpu_k _ _ _ (by omega)]; exact y1 a (by omega)
    have dm3 : DM (zpu (zpu I 100 (0 + sn (kS (dK D))) (nI l)) 93 9 (nI (sn (kS (dK D)) + 1))) (hlpD D l) := ⟨⟨mp3, m1.fr d6.1 (by omega) (fun j a _ => by rw [zpu_q _ _ _ (by decide), zpu_k _ _ _ (by omega)])⟩, zpu_s _ _ _ _, by rw [zpu_k _ _ _ (by decide), zpu_q _ _ _ (by decide)]; exact m3, by rw [zpu_q _ _ _ (by decide), zpu_q _ _ _ (by decide)]; exact m4, by rw [zpu_q _ _ _ (by decide), zpu_q _ _ _ (by decide)]; exact m5, by rw [zpu_q _ _ _ (by decide), zpu_q _ _ _ (by decide)]; exact m6, by rw [zpu_k _ _ _ (by decide), zpu_q _ _ _ (by decide)]; exact m7, by rw [zpu_k _ _ _ (by decide), zpu_q _ _ _ (by decide)]; exact m8, by rw [zpu_k _ _ _ (by decide), zpu_q _ _ _ (by decide)]; exact m9⟩
    exact end0 _ (hok _ p _ he (fun _ => dm3) ((rt.row (by decide)).pu (by decide)) (((FrB.rf I).row _ (by decide)).fld _ (by decide)))
  have dm6 : l = 6 → DM I (dK D, dw D, 1, dh D) := fun z => by rw [if_pos z] at dm; exact dm
  have hate : ∀ bo, bo ≤ 1 → (bo = 1 ↔ l = 5) → (l = 4 ∨ l = 5) → Zp G 151 47 [some (.ref 93), some (.int (nI l))] [.int (nI bo), .ref 93] I L Q := by
    intro bo hbo hb5 h45
    rcases (by omega : bo = 0 ∨ bo = 1) with rfl | rfl
    · refine Zp.callv1V v_147 k_151_47 m_93 (Nat.le_of_ble_eq_true rfl) (Nat.le_of_ble_eq_true rfl) (c_readHateM0 (dmN (by omega)) do_ tp to hp rt (fun c s' I2 hr ft f2 => ⟨rfl, end50 I2 (hbad c s' I2 (by rw [show l = 4 by omega]; exact hr) ft f2)⟩) (fun D' p' I2 hr hd rt2 f2 => ⟨rfl, end50 I2 (hok D' p' I2 (by rw [show l = 4 by omega]; exact hr) hd rt2 f2)⟩))
      
    · refine Zp.callv1V v_147 k_151_47 m_93 (Nat.le_of_ble_eq_true rfl) (Nat.le_of_ble_eq_true rfl) (c_readHateM1 (dmN (by omega)) do_ tp to hp rt (fun c s' I2 hr ft f2 => ⟨rfl, end50 I2 (hbad c s' I2 (by rw [show l = 5 by omega]; exact hr) ft f2)⟩) (fun D' p' I2 hr hd rt2 f2 => ⟨rfl, end50 I2 (hok D' p' I2 (by rw [show l = 5 by omega]; exact hr) hd rt2 f2)⟩))
      
  refine Zm.go [some (.ref _), some (.int _)] vl_151 rfl ?_
  refine Zp.iload_n k_151_0 rfl ?_
  refine Zp.tabEq _ 4 36 k_151_1 (nI_toInt (by omega)) (by decide) (by decide) rfl (by decide) (fun c_1_4 => ?_) (fun n_1_4 => ?_)
  · refine Zp.aload_n k_151_36 rfl ?_
    refine Zp.iload_n k_151_37 rfl ?_
    refine Zp.iconst (nI 5) k_151_38 (by decide) ?_
    refine Zp.icmp_neN k_151_39 (by omega) (by omega) (fun c_39 => ?_) (fun c_39 => ?_)
    · refine Zp.iconst (nI 0) k_151_46 (by decide) ?_
      exact hate _ (by decide) (by omega) (by omega)
    · refine Zp.iconst (nI 1) k_151_42 (by decide) ?_
      refine Zp.goto k_151_43 ?_
      exact hate _ (by decide) (by omega) (by omega)
  refine Zp.tabEq _ 5 36 k_151_1 (nI_toInt (by omega)) (by decide) (by decide) rfl (by decide) (fun c_1_5 => ?_) (fun n_1_5 => ?_)
  · refine Zp.aload_n k_151_36 rfl ?_
    refine Zp.iload_n k_151_37 rfl ?_
    refine Zp.iconst (nI 5) k_151_38 (by decide) ?_
    refine Zp.icmp_neN k_151_39 (by omega) (by omega) (fun c_39 => ?_) (fun c_39 => ?_)
    · refine Zp.iconst (nI 0) k_151_46 (by decide) ?_
      exact hate _ (by decide) (by omega) (by omega)
    · refine Zp.iconst (nI 1) k_151_42 (by decide) ?_
      refine Zp.goto k_151_43 ?_
      exact hate _ (by decide) (by omega) (by omega)
  refine Zp.tabEq _ 6 53 k_151_1 (nI_toInt (by omega)) (by decide) (by decide) rfl (by decide) (fun c_1_6 => ?_) (fun n_1_6 => ?_)
  · refine Zp.aload_n k_151_53 rfl ?_
    refine Zp.getR k_151_54 rfl (zlt rfl) m_93 r_93_8 ?_
    refine Zp.bipush (nI 30) k_151_57 (by decide) ?_
    refine Zp.aload_n k_151_59 rfl ?_
    refine Zp.iconst (nI 1) k_151_60 (by decide) ?_
    refine Zp.bipush (nI 99) k_151_61 (by decide) ?_
    refine Zp.callv2I v_144 k_151_63 m_93 (Nat.le_of_ble_eq_true rfl) (Nat.le_of_ble_eq_true rfl) (c_readNumberM tp to hp rt (by decide) (by decide) (fun c s' I2 hr ft f2 => ⟨_, rfl, potbad1 c s' I2 (by rw [show l = 6 by omega]; exact (if_neg (fun z => hpt ⟨by omega, z⟩)).trans (sbd_l hr)) ft f2.h.w.b⟩) (fun n1 p1 I2 hr rt2 f2 => ⟨_, rfl, potok1 n1 p1 I2 (by omega) hr rt2 ((dm6 (by omega)).n f2) f2.h.w.b⟩))
    
  refine Zp.tabEq _ 7 84 k_151_1 (nI_toInt (by omega)) (by decide) (by decide) rfl (by decide) (fun c_1_7 => ?_) (fun n_1_7 => ?_)
  · refine Zp.aload_n k_151_84 rfl ?_
    refine Zp.callv0V v_148 k_151_85 m_93 (Nat.le_of_ble_eq_true rfl) (Nat.le_of_ble_eq_true rfl) (c_readSlipM (s := s) (dmN (by omega)) do_ tp to hp rt (by omega) (fun c s' I2 hr ft f2 => ⟨rfl, end88 I2 (hbad c s' I2 (by rw [show l = 7 by omega]; exact hr) ft f2)⟩) (fun D' p' I2 hr hd rt2 f2 => ⟨rfl, end88 I2 (hok D' p' I2 (by rw [show l = 7 by omega]; exact hr) hd rt2 f2)⟩))
    
  refine Zp.tabEq _ 8 91 k_151_1 (nI_toInt (by omega)) (by decide) (by decide) rfl (by decide) (fun c_1_8 => ?_) (fun n_1_8 => ?_)
  · refine Zp.aload_n k_151_91 rfl ?_
    refine Zp.callv0V v_150 k_151_92 m_93 (Nat.le_of_ble_eq_true rfl) (Nat.le_of_ble_eq_true rfl) (c_readPlanM (s := s) (dmN (by omega)) do_ tp to hp rt (by omega) (fun c s' I2 hr ft f2 => ⟨rfl, end95 I2 (hbad c s' I2 (by rw [show l = 8 by omega]; exact hr) ft f2)⟩) (fun D' p' I2 hr hd rt2 f2 => ⟨rfl, end95 I2 (hok D' p' I2 (by rw [show l = 8 by omega]; exact hr) hd rt2 f2)⟩))
    
  refine Zp.tabNo _ 98 k_151_1 (nI_toInt (by omega)) (by omega) (by decide) ?_
  exact hlp (by omega)
end LINEM
