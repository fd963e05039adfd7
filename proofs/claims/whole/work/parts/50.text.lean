/-! THE TEXT: the class's text() -/
def K0 : zKi := ((0, 20, 8, 0, 0, 0, fun _ => 0, fun _ => 0), (0, 0, fun _ => 0, fun _ => 0, fun _ => 0), (0, fun _ => 0), (0, fun _ => 0, fun _ => 0))
def D0 : zD := (K0, 0, 0, 0)
theorem D0_o : Do D0 := ⟨⟨by decide, by decide, by decide, by decide, by decide, fun _ => Nat.zero_le _, fun _ => Nat.zero_le _⟩, rfl, fun _ _ _ _ _ => rfl, ⟨by decide, by decide, fun i hi => absurd hi (Nat.not_lt_zero i)⟩, rfl, ⟨by decide, fun i hi => absurd hi (Nat.not_lt_zero i)⟩, rfl, by decide, by decide⟩
def FrA_ (I I' : zI) : Prop := (∀ q, q < 15 ∨ 29 < q → I' q = I q) ∧ ∀ j, j ≠ 2 → j ≠ 3 → I' 29 j = I 29 j
theorem FrD.a {I J K : zI} (h : FrA_ I J) (k : FrD J K) : FrA_ I K := ⟨fun q a => (k.1 q a).trans (h.1 q a), fun j a b => (k.2.1 j a b).trans (h.2 j a b)⟩
theorem Tp.a {I I' : zI} {T : zTp} (h : Tp I T) (f : FrA_ I I') : Tp I' T := ⟨(f.2 1 (by decide) (by decide)).trans h.1, by rw [f.1 30 (by omega)]; exact h.2⟩
section TEXTC
variable {G : zG} {I : zI} {L : zJ} {Q : zP} {T : zTp} {D : zD} {p s e : Nat}
theorem c_clear (hq : ∀ I', Kp I' 16 K0 → (∀ q, q < 17 ∨ 28 < q → I' q = I q) → Q none I' L) : Zm G 2 [.ref 16] I L Q := by
  have loop : ∀ k i (I1 : zI), i + k = 25 → I1 17 0 = nI 0 → I1 17 1 = nI 20 → I1 17 2 = nI 8 → I1 17 3 = nI 0 → I1 17 4 = nI 0 → I1 17 5 = nI 0 → (∀ j, j < i → I1 19 j = nI 0) → (∀ q, q ≠ 17 → q ≠ 19 → I1 q = I q) → Zp G 2 52 [some (.ref 16), some (.int (nI i))] [] I1 L Q := by
    intro k
    induction k with
    | zero =>
      intro i I1 hi h0 h1 h2 h3 h4 h5 hj fr
      have e : i = 25 := by omega
      subst e
      refine Zp.iload_n k_2_52 rfl ?_
      refine Zp.aload_n k_2_53 rfl ?_
      refine Zp.getR k_2_54 rfl (zlt rfl) m_16 r_16_0 ?_
      refine Zp.getR k_2_57 rfl (zlt rfl) m_17 r_17_7 ?_
      refine Zp.alen k_2_60 m_19 (Nat.le_of_ble_eq_true rfl) ?_
      refine Zp.icmp_geN k_2_61 (by omega) (by omega) (fun c_61 => ?_) (fun c_61 => absurd c_61 (by omega))
      refine Zp.aload_n k_2_80 rfl ?_
      refine Zp.getR k_2_81 rfl (zlt rfl) m_16 r_16_1 ?_
      refine Zp.iconst (nI 0) k_2_84 (by decide) ?_
      refine Zp.putI k_2_85 rfl (zlt rfl) m_20 ?_
      refine Zp.aload_n k_2_88 rfl ?_
      refine Zp.getR k_2_89 rfl (zlt rfl) m_16 r_16_1 ?_
      refine Zp.iconst (nI 0) k_2_92 (by decide) ?_
      refine Zp.putI k_2_93 rfl (zlt rfl) m_20 ?_
      refine Zp.aload_n k_2_96 rfl ?_
      refine Zp.getR k_2_97 rfl (zlt rfl) m_16 r_16_2 ?_
      refine Zp.iconst (nI 0) k_2_100 (by decide) ?_
      refine Zp.putI k_2_101 rfl (zlt rfl) m_24 ?_
      refine Zp.aload_n k_2_104 rfl ?_
      refine Zp.getR k_2_105 rfl (zlt rfl) m_16 r_16_3 ?_
      refine Zp.iconst (nI 0) k_2_108 (by decide) ?_
      refine Zp.putI k_2_109 rfl (zlt rfl) m_26 ?_
      refine Zp.vret k_2_112 vr_2 ?_
      refine hq _ ⟨⟨?_, ?_, ?_, ?_, ?_, ?_, fun a ha => absurd ha (Nat.not_lt_zero a), fun j hj2 => ?_⟩, ⟨?_, ?_, fun a ha => absurd ha (Nat.not_lt_zero a), fun a ha => absurd ha (Nat.not_lt_zero a), fun a ha => absurd ha (Nat.not_lt_zero a)⟩, ⟨?_, fun a ha => absurd ha (Nat.not_lt_zero a)⟩, ?_, fun a ha => absurd ha (Nat.not_lt_zero a), fun a ha => absurd ha (Nat.not_lt_zero a)⟩ (fun q h => ?_)
      · rw [zpu_q _ _ _ (by decide), zpu_q _ _ _ (by decide), zpu_q _ _ _ (by decide), zpu_q _ _ _ (by decide)]; exact h0
      · rw [zpu_q _ _ _ (by decide), zpu_q _ _ _ (by decide), zpu_q _ _ _ (by decide), zpu_q _ _ _ (by decide)]; exact h1
      · rw [zpu_q _ _ _ (by decide), zpu_q _ _ _ (by decide), zpu_q _ _ _ (by decide), zpu_q _ _ _ (by decide)]; exact h2
      · rw [zpu_q _ _ _ (by decide), zpu_q _ _ _ (by decide), zpu_q _ _ _ (by decide), zpu_q _ _ _ (by decide)]; exact h3
      · rw [zpu_q _ _ _ (by decide), zpu_q _ _ _ (by decide), zpu_q _ _ _ (by decide), zpu_q _ _ _ (by decide)]; exact h4
      · rw [zpu_q _ _ _ (by decide), zpu_q _ _ _ (by decide), zpu_q _ _ _ (by decide), zpu_q _ _ _ (by decide)]; exact h5
      · rw [zpu_q _ _ _ (by decide), zpu_q _ _ _ (by decide), zpu_q _ _ _ (by decide), zpu_q _ _ _ (by decide)]; exact hj j hj2
      · rw [zpu_q _ _ _ (by decide), zpu_q _ _ _ (by decide), zpu_k _ _ _ (by decide), zpu_s]; rfl
      · rw [zpu_q _ _ _ (by decide), zpu_q _ _ _ (by decide), zpu_s]; rfl
      · rw [zpu_q _ _ _ (by decide), zpu_s]; rfl
      · rw [zpu_s]; rfl
      · rw [zpu_q _ _ _ (by omega), zpu_q _ _ _ (by omega), zpu_q _ _ _ (by omega), zpu_q _ _ _ (by omega)]; exact fr q (by omega) (by omega)
    | succ k ih =>
      intro i I1 hi h0 h1 h2 h3 h4 h5 hj fr
      refine Zp.iload_n k_2_52 rfl ?_
      refine Zp.aload_n k_2_53 rfl ?_
      refine Zp.getR k_2_54 rfl (zlt rfl) m_16 r_16_0 ?_
      refine Zp.getR k_2_57 rfl (zlt rfl) m_17 r_17_7 ?_
      refine Zp.alen k_2_60 m_19 (Nat.le_of_ble_eq_true rfl) ?_
      refine Zp.icmp_geN k_2_61 (by omega) (by omega) (fun c_61 => absurd c_61 (by omega)) (fun c_61 => ?_)
      refine Zp.aload_n k_2_64 rfl ?_
      refine Zp.getR k_2_65 rfl (zlt rfl) m_16 r_16_0 ?_
      refine Zp.getR k_2_68 rfl (zlt rfl) m_17 r_17_7 ?_
      refine Zp.iload_n k_2_71 rfl ?_
      refine Zp.iconst (nI 0) k_2_72 (by decide) ?_
      refine Zp.iast _ k_2_73 m_19 rfl (by omega) (zlt rfl) ?_
      refine Zp.iinc (nI (_ + 1)) [some (.ref _), some (.int _)] k_2_74 rfl (nI_1 _) (Nat.lt_of_lt_of_eq (zlt rfl : 1 < 2) vl_2.symm) rfl ?_
      refine Zp.goto k_2_77 ?_
      refine ih (i + 1) _ (by omega) (by rw [zpu_q _ _ _ (by decide)]; exact h0) (by rw [zpu_q _ _ _ (by decide)]; exact h1) (by rw [zpu_q _ _ _ (by decide)]; exact h2) (by rw [zpu_q _ _ _ (by decide)]; exact h3) (by rw [zpu_q _ _ _ (by decide)]; exact h4) (by rw [zpu_q _ _ _ (by decide)]; exact h5) (fun j hj2 => ?_) (fun q a b => by rw [zpu_q _ _ _ b]; exact fr q a b)
      by_cases e : j = i
      · subst e; rw [zpu_s]
      · rw [zpu_k _ _ _ e]; exact hj j (by omega)
  refine Zm.go [some (.ref _), none] vl_2 rfl ?_
  refine Zp.aload_n k_2_0 rfl ?_
  refine Zp.getR k_2_1 rfl (zlt rfl) m_16 r_16_0 ?_
  refine Zp.iconst (nI 0) k_2_4 (by decide) ?_
  refine Zp.putI k_2_5 rfl (zlt rfl) m_17 ?_
  refine Zp.aload_n k_2_8 rfl ?_
  refine Zp.getR k_2_9 rfl (zlt rfl) m_16 r_16_0 ?_
  refine Zp.bipush (nI 20) k_2_12 (by decide) ?_
  refine Zp.putI k_2_14 rfl (zlt rfl) m_17 ?_
  refine Zp.aload_n k_2_17 rfl ?_
  refine Zp.getR k_2_18 rfl (zlt rfl) m_16 r_16_0 ?_
  refine Zp.bipush (nI 8) k_2_21 (by decide) ?_
  refine Zp.putI k_2_23 rfl (zlt rfl) m_17 ?_
  refine Zp.aload_n k_2_26 rfl ?_
  refine Zp.getR k_2_27 rfl (zlt rfl) m_16 r_16_0 ?_
  refine Zp.iconst (nI 0) k_2_30 (by decide) ?_
  refine Zp.putI k_2_31 rfl (zlt rfl) m_17 ?_
  refine Zp.aload_n k_2_34 rfl ?_
  refine Zp.getR k_2_35 rfl (zlt rfl) m_16 r_16_0 ?_
  refine Zp.iconst (nI 0) k_2_38 (by decide) ?_
  refine Zp.putI k_2_39 rfl (zlt rfl) m_17 ?_
  refine Zp.aload_n k_2_42 rfl ?_
  refine Zp.getR k_2_43 rfl (zlt rfl) m_16 r_16_0 ?_
  refine Zp.iconst (nI 0) k_2_46 (by decide) ?_
  refine Zp.putZ k_2_47 rfl (zlt rfl) (by decide) m_17 ?_
  refine Zp.iconst (nI 0) k_2_50 (by decide) ?_
  refine Zp.istore_n [some (.ref _), some (.int _)] k_2_51 (Nat.lt_of_lt_of_eq (zlt rfl : 1 < 2) vl_2.symm) rfl ?_
  refine loop 25 0 _ (by omega) ?_ ?_ ?_ ?_ ?_ ?_ (fun j hj => absurd hj (Nat.not_lt_zero j)) (fun q a b => ?_)
  · rw [zpu_k _ _ _ (by decide), zpu_k _ _ _ (by decide), zpu_k _ _ _ (by decide), zpu_k _ _ _ (by decide), zpu_k _ _ _ (by decide), zpu_s]
  · rw [zpu_k _ _ _ (by decide), zpu_k _ _ _ (by decide), zpu_k _ _ _ (by decide), zpu_k _ _ _ (by decide), zpu_s]
  · rw [zpu_k _ _ _ (by decide), zpu_k _ _ _ (by decide), zpu_k _ _ _ (by decide), zpu_s]
  · rw [zpu_k _ _ _ (by decide), zpu_k _ _ _ (by decide), zpu_s]
  · rw [zpu_k _ _ _ (by decide), zpu_s]
  · rw [zpu_s]
  · rw [zpu_q _ _ _ a, zpu_q _ _ _ a, zpu_q _ _ _ a, zpu_q _ _ _ a, zpu_q _ _ _ a, zpu_q _ _ _ a]
theorem c_rewind (hq : Q none (zpu I 29 3 (nI 0)) L) : Zm G 69 [.ref 29] I L Q := by
  refine Zm.go [some (.ref _)] vl_69 rfl ?_
  refine Zp.aload_n k_69_0 rfl ?_
  refine Zp.iconst (nI 0) k_69_1 (by decide) ?_
  refine Zp.putI k_69_2 rfl (zlt rfl) m_29 ?_
  refine Zp.vret k_69_5 vr_69 ?_
  exact hq
theorem c_readAllC (tp : Tp I T) (to : To T)
    (hbad : ∀ c s I', prs T (T.1 + 1) D0 0 0 = .inl (c, s) → I' 15 2 = nI c → I' 15 3 = nI s → FrA_ I I' → Q (some (.int (nI 0))) I' L)
    (hok : ∀ D n I', prs T (T.1 + 1) D0 0 0 = .inr (D, n) → DC I' D → I' 15 1 = nI n → I' 15 2 = nI 0 → Do D → dh D ≤ sn (kS (dK D)) → n < 1000 → FrA_ I I' → Q (some (.int (nI 1))) I' L) : Zm G 14 [.ref 15] I L Q := by
  have o1 := to.1
  have fin : ∀ (I2 : zI) (x : Int32), Q (some (.int (nI 0))) I2 L → Zp G 14 67 [some (.ref 15), some (.int x)] [.int (nI 0)] I2 L Q := by
    intro I2 x h
    refine Zp.if_neN k_14_67 (by omega) (fun c => absurd c (by decide)) (fun _ => ?_)
    refine Zp.iconst (nI 0) k_14_70 (by decide) ?_
    refine Zp.iret _ k_14_71 vr_14 rfl ?_
    exact h
  have fin6 : ∀ (I2 : zI) (x : Int32), Q (some (.int (nI 0))) I2 L → Zp G 14 116 [some (.ref 15), some (.int x)] [.int (nI 0)] I2 L Q := by
    intro I2 x h
    refine Zp.if_eqN k_14_116 (by omega) (fun _ => ?_) (fun c => absurd c (by decide))
    refine Zp.iconst (nI 0) k_14_123 (by decide) ?_
    refine Zp.iret _ k_14_124 vr_14 rfl ?_
    exact h
  have loop : ∀ k (D : zD) (p n : Nat) (I1 : zI), prs T k D p n = prs T (T.1 + 1) D0 0 0 → T.1 + 1 ≤ k + p → p ≤ T.1 → n ≤ p → Do D → DC I1 D → I1 15 1 = nI n → I1 15 2 = nI 0 → I1 29 2 = nI (tok T p).2.1 → I1 29 3 = nI (tok T p).2.2 → FrA_ I I1 → Zp G 14 47 [some (.ref 15), some (.int (nI (tok T p).1))] [] I1 L Q := by
    intro k
    induction k with
    | zero => intro D p n I1 hr hk hp; exact absurd hk (by omega)
    | succ k ih =>
      intro D p n I1 hr hk hp hn do_ dc h1 hf0 h2 h3 fa
      have t := tok_ok T hp
      have tp1 := tp.a fa
      have hd5 := do_.2.2.2.2.2.2.2.1
      have hn5 := do_.1.1
      have hu : prs T (k + 1) D p n = if (tok T p).1 = 3 then (if dh D ≤ sn (kS (dK D)) then .inr (D, n) else .inl (6, (tok T p).2.1)) else sbd (lnS T D (tok T p)) fun y => prs T k y.1 y.2 (n + 1) := rfl
      by_cases w : (tok T p).1 = 3
      · rw [if_pos w] at hu
        have h7 := dc.2.2.2
        refine Zp.iload_n k_14_47 rfl ?_
        refine Zp.iconst (nI 3) k_14_48 (by decide) ?_
        refine Zp.icmp_eqN k_14_49 (by omega) (by omega) (fun c_49 => ?_) (fun c_49 => absurd c_49 (by omega))
        refine Zp.aload_n k_14_93 rfl ?_
        refine Zp.getV k_14_94 rfl (zlt rfl) m_15 rfl ?_
        refine Zp.aload_n k_14_97 rfl ?_
        refine Zp.getR k_14_98 rfl (zlt rfl) m_15 r_15_0 ?_
        refine Zp.getR k_14_101 rfl (zlt rfl) m_16 r_16_0 ?_
        refine Zp.getV k_14_104 rfl (zlt rfl) m_17 dc.1.1.1 ?_
        refine Zp.icmp_ltZ _ _ k_14_107 rfl (nI_toInt (by omega)) (fun c_107 => ?_) (fun c_107 => ?_)
        · refine Zp.iconst (nI 1) k_14_119 (by decide) ?_
          refine Zp.goto k_14_120 ?_
          refine Zp.iret _ k_14_124 vr_14 rfl ?_
          exact hok D n I1 (by rw [← hr, hu, if_pos (by omega)]) dc h1 hf0 do_ (by omega) (by omega) fa
        · refine Zp.aload_n k_14_110 rfl ?_
          refine Zp.bipush (nI 6) k_14_111 (by decide) ?_
          refine Zp.callv1I v_25 k_14_113 m_15 (Nat.le_of_ble_eq_true rfl) (Nat.le_of_ble_eq_true rfl) (c_fails h2 (fun I3 a b f3 => ⟨_, rfl, fin6 I3 _ (hbad 6 _ I3 (by rw [← hr, hu, if_neg (by omega)]) a b (f3.y.d.a fa))⟩))
          
      · rw [if_neg w] at hu
        have bad : ∀ c s' I2, lnS T D (tok T p) = .inl (c, s') → I2 15 2 = nI c → I2 15 3 = nI s' → FrD I1 I2 → Zp G 14 67 [some (.ref 15), some (.int (nI (tok T p).1))] [.int (nI 0)] I2 L Q := by
          intro c s' I2 hl a b f2
          exact fin I2 _ (hbad c s' I2 (by rw [← hr, hu]; exact sbd_l hl) a b (f2.a fa))
        have ok : ∀ D' p' I2, lnS T D (tok T p) = .inr (D', p') → DC I2 D' → I2 29 3 = nI p' → FrO I1 I2 → Zp G 14 67 [some (.ref 15), some (.int (nI (tok T p).1))] [.int (nI 1)] I2 L Q := by
          intro D' p' I2 hl dc2 g3 f2
          have lo := lnS_ok hp do_ hl
          have g1 : I2 15 1 = nI n := f2.1.2.2.trans h1
          have tp2 : Tp I2 T := tp1.d f2.1
          refine Zp.if_neN k_14_67 (by omega) (fun _ => ?_) (fun c => absurd c (by decide))
          refine Zp.aload_n k_14_72 rfl ?_
          refine Zp.dup k_14_73 rfl ?_
          refine Zp.getV k_14_74 rfl (zlt rfl) m_15 g1 ?_
          refine Zp.iconst (nI 1) k_14_77 (by decide) ?_
          refine Zp.iaddN k_14_78 ?_
          refine Zp.putI k_14_79 rfl (zlt rfl) m_15 ?_
          refine Zp.aload_n k_14_82 rfl ?_
          refine Zp.getR k_14_83 rfl (zlt rfl) m_15 r_15_4 ?_
          refine Zp.callv0I v_70 k_14_86 m_29 (Nat.le_of_ble_eq_true rfl) (Nat.le_of_ble_eq_true rfl) (c_readToken (p := p') (T := T) ⟨by rw [zpu_q _ _ _ (by decide)]; exact tp2.1, by rw [zpu_q _ _ _ (by decide)]; exact tp2.2⟩ to lo.2.2 (by rw [zpu_q _ _ _ (by decide)]; exact g3) (fun I3 z2 z3 gj gq => ⟨_, rfl, ?_⟩))
          refine Zp.istore_n [some (.ref _), some (.int _)] k_14_89 (Nat.lt_of_lt_of_eq (zlt rfl : 1 < 2) vl_14.symm) rfl ?_
          refine Zp.goto k_14_90 ?_
          exact ih D' p' (n + 1) I3 (by rw [← hr, hu, sbd_r hl]) (by omega) lo.2.2 (by omega) lo.1 ⟨dc2.1.fr fun q a b => by rw [gq q (by omega), zpu_q _ _ _ (by omega)], by rw [gq 15 (by decide), zpu_k _ _ _ (by decide)]; exact dc2.2.1, by rw [gq 15 (by decide), zpu_k _ _ _ (by decide)]; exact dc2.2.2.1, by rw [gq 15 (by decide), zpu_k _ _ _ (by decide)]; exact dc2.2.2.2⟩ (by rw [gq 15 (by decide), zpu_s]) (by rw [gq 15 (by decide), zpu_k _ _ _ (by decide)]; exact f2.2.trans hf0) z2 z3 ⟨fun q h => by rw [gq q (by omega), zpu_q _ _ _ (by omega)]; exact (f2.1.1 q h).trans (fa.1 q h), fun j a b => by rw [gj j a b, zpu_q _ _ _ (by decide)]; exact (f2.1.2.1 j a b).trans (fa.2 j a b)⟩
        refine Zp.iload_n k_14_47 rfl ?_
        refine Zp.iconst (nI 3) k_14_48 (by decide) ?_
        refine Zp.icmp_eqN k_14_49 (by omega) (by omega) (fun c_49 => absurd c_49 (by omega)) (fun c_49 => ?_)
        refine Zp.aload_n k_14_52 rfl ?_
        refine Zp.getV k_14_53 rfl (zlt rfl) m_15 h1 ?_
        refine Zp.sipush (nI 160) k_14_56 (by decide) ?_
        refine Zp.icmp_geN k_14_59 (by omega) (by omega) (fun c_59 => absurd c_59 (by omega)) (fun c_59 => ?_)
        refine Zp.aload_n k_14_62 rfl ?_
        refine Zp.iload_n k_14_63 rfl ?_
        refine Zp.callv1I v_15 k_14_64 m_15 (Nat.le_of_ble_eq_true rfl) (Nat.le_of_ble_eq_true rfl) (c_readLineC dc do_ tp1 to hp h2 h3 w (fun c s' I2 hl a b f2 => ⟨_, rfl, bad c s' I2 hl a b f2⟩) (fun D' p' I2 hl dc2 g3 f2 => ⟨_, rfl, ok D' p' I2 hl dc2 g3 f2⟩))
        
  refine Zm.go [some (.ref _), none] vl_14 rfl ?_
  refine Zp.aload_n k_14_0 rfl ?_
  refine Zp.getR k_14_1 rfl (zlt rfl) m_15 r_15_0 ?_
  refine Zp.callv0V v_2 k_14_4 m_16 (Nat.le_of_ble_eq_true rfl) (Nat.le_of_ble_eq_true rfl) (c_clear (fun I1 kp1 f1 => ⟨rfl, ?_⟩))
  refine Zp.aload_n k_14_7 rfl ?_
  refine Zp.getR k_14_8 rfl (zlt rfl) m_15 r_15_4 ?_
  refine Zp.callv0V v_69 k_14_11 m_29 (Nat.le_of_ble_eq_true rfl) (Nat.le_of_ble_eq_true rfl) (c_rewind ⟨rfl, ?_⟩)
  refine Zp.aload_n k_14_14 rfl ?_
  refine Zp.iconst (nI 0) k_14_15 (by decide) ?_
  refine Zp.putI k_14_16 rfl (zlt rfl) m_15 ?_
  refine Zp.aload_n k_14_19 rfl ?_
  refine Zp.iconst (nI 0) k_14_20 (by decide) ?_
  refine Zp.putI k_14_21 rfl (zlt rfl) m_15 ?_
  refine Zp.aload_n k_14_24 rfl ?_
  refine Zp.iconst (nI 0) k_14_25 (by decide) ?_
  refine Zp.putI k_14_26 rfl (zlt rfl) m_15 ?_
  refine Zp.aload_n k_14_29 rfl ?_
  refine Zp.iconst (nI 0) k_14_30 (by decide) ?_
  refine Zp.putZ k_14_31 rfl (zlt rfl) (by decide) m_15 ?_
  refine Zp.aload_n k_14_34 rfl ?_
  refine Zp.iconst (-1) k_14_35 (by decide) ?_
  refine Zp.putI k_14_36 rfl (zlt rfl) m_15 ?_
  have e29 : zpu (zpu (zpu (zpu (zpu (zpu I1 29 3 (nI 0)) 15 1 (nI 0)) 15 2 (nI 0)) 15 5 (nI 0)) 15 6 (nI 0)) 15 7 (-1) 29 = zpu I1 29 3 (nI 0) 29 := by
    rw [zpu_q _ _ _ (by decide), zpu_q _ _ _ (by decide), zpu_q _ _ _ (by decide), zpu_q _ _ _ (by decide), zpu_q _ _ _ (by decide)]
  have eq : ∀ q, q ≠ 15 → q ≠ 29 → zpu (zpu (zpu (zpu (zpu (zpu I1 29 3 (nI 0)) 15 1 (nI 0)) 15 2 (nI 0)) 15 5 (nI 0)) 15 6 (nI 0)) 15 7 (-1) q = I1 q := fun q a b => by
    rw [zpu_q _ _ _ a, zpu_q _ _ _ a, zpu_q _ _ _ a, zpu_q _ _ _ a, zpu_q _ _ _ a, zpu_q _ _ _ b]
  refine Zp.aload_n k_14_39 rfl ?_
  refine Zp.getR k_14_40 rfl (zlt rfl) m_15 r_15_4 ?_
  refine Zp.callv0I v_70 k_14_43 m_29 (Nat.le_of_ble_eq_true rfl) (Nat.le_of_ble_eq_true rfl) (c_readToken (p := 0) (T := T) ⟨by rw [e29, zpu_k _ _ _ (by decide), f1 29 (by omega)]; exact tp.1, by rw [zpu_q _ _ _ (by decide), zpu_q _ _ _ (by decide), zpu_q _ _ _ (by decide), zpu_q _ _ _ (by decide), zpu_q _ _ _ (by decide), zpu_q _ _ _ (by decide), f1 30 (by omega)]; exact tp.2⟩ to (Nat.zero_le _) (by rw [e29, zpu_s]) (fun I3 z2 z3 gj gq => ⟨_, rfl, ?_⟩))
  refine Zp.istore_n [some (.ref _), some (.int _)] k_14_46 (Nat.lt_of_lt_of_eq (zlt rfl : 1 < 2) vl_14.symm) rfl ?_
  refine loop (T.1 + 1) D0 0 0 I3 rfl (by omega) (Nat.zero_le _) (Nat.le_refl 0) D0_o ⟨kp1.fr fun q a b => by rw [gq q (by omega)]; exact eq q (by omega) (by omega), ?_, ?_, ?_⟩ ?_ ?_ z2 z3 ⟨fun q h => by rw [gq q (by omega), eq q (by omega) (by omega)]; exact f1 q (by omega), fun j a b => by rw [gj j a b, e29, zpu_k _ _ _ b, f1 29 (by omega)]⟩
  · rw [gq 15 (by decide), zpu_k _ _ _ (by decide), zpu_k _ _ _ (by decide), zpu_s]; rfl
  · rw [gq 15 (by decide), zpu_k _ _ _ (by decide), zpu_s]; rfl
  · rw [gq 15 (by decide), zpu_s]; decide
  · rw [gq 15 (by decide), zpu_k _ _ _ (by decide), zpu_k _ _ _ (by decide), zpu_k _ _ _ (by decide), zpu_k _ _ _ (by decide), zpu_s]
  · rw [gq 15 (by decide), zpu_k _ _ _ (by decide), zpu_k _ _ _ (by decide), zpu_k _ _ _ (by decide), zpu_s]
end TEXTC
