/-! READING A SHEET: what it calls -/
section READ0
variable {G : zG} {A : zQs} {I : zI} {L : zJ} {Q : zP} {x y : Int32}
/-- whether two, told by any numbers, stir -/
def mayS (S : zSo) (x y : Int32) : Prop := ((0 ≤ x.toInt ∧ x.toInt < (sn S : Int)) ∧ (0 ≤ y.toInt ∧ y.toInt < (sn S : Int)) ∧ ¬ x.toInt = y.toInt) ∧ canS S
theorem c_faultAsNo {q n lane : Nat} (hM : M0[q]? = some (6, n)) (h : I q 0 = -1) (hq : Q (some (.int (nI 1))) I L) : Zm G 46 [.ref q, .int (nI lane)] I L Q := by
  refine Zm.go [some (.ref _), some (.int _)] vl_46 rfl ?_
  refine Zp.aload_n k_46_0 rfl ?_
  refine Zp.callv0I v_42 k_46_1 hM (Nat.le_of_ble_eq_true rfl) (Nat.le_of_ble_eq_true rfl) (c_isNothing hM h ⟨_, rfl, ?_⟩)
  refine Zp.if_eqB k_46_4 (fun c_4 => (by first | exact absurd c_4 trivial | exact absurd trivial c_4)) (fun c_4 => ?_)
  refine Zp.iconst (nI 1) k_46_7 (by decide) ?_
  refine Zp.iret _ k_46_8 vr_46 rfl ?_
  exact hq
theorem c_faultAs {q n l s lane : Nat} (hM : M0[q]? = some (6, n)) (h : I q 0 = nI l) (hl : l < 2 ^ 31) (h2 : I q 2 = nI s) (hs : s < 2 ^ 31) (hl2 : lane < 2 ^ 31) (hq : Q (some (.int (nI (if lane = s then 0 else 3)))) I L) : Zm G 46 [.ref q, .int (nI lane)] I L Q := by
  refine Zm.go [some (.ref _), some (.int _)] vl_46 rfl ?_
  refine Zp.aload_n k_46_0 rfl ?_
  refine Zp.callv0I v_42 k_46_1 hM (Nat.le_of_ble_eq_true rfl) (Nat.le_of_ble_eq_true rfl) (c_isNothingN hM h hl ⟨_, rfl, ?_⟩)
  refine Zp.if_eqB k_46_4 (fun c_4 => ?_) (fun c_4 => (by first | exact absurd c_4 id | exact absurd id c_4))
  refine Zp.iload_n k_46_9 rfl ?_
  refine Zp.aload_n k_46_10 rfl ?_
  refine Zp.getV k_46_11 rfl (zlt rfl) hM h2 ?_
  refine Zp.icmp_neN k_46_14 (by omega) (by omega) (fun c_14 => ?_) (fun c_14 => ?_)
  · refine Zp.iconst (nI 3) k_46_21 (by decide) ?_
    refine Zp.iret _ k_46_22 vr_46 rfl ?_
    first | (rw [if_pos c_14] at hq; exact hq) | (rw [if_neg c_14] at hq; exact hq)
  · refine Zp.iconst (nI 0) k_46_17 (by decide) ?_
    refine Zp.goto k_46_18 ?_
    refine Zp.iret _ k_46_22 vr_46 rfl ?_
    first | (rw [if_pos c_14] at hq; exact hq) | (rw [if_neg c_14] at hq; exact hq)
theorem c_stirM (pm : PicM A I) (ho : Ao A)
    (hno : ¬ mayS (kS (aK A)) x y → ∀ I' v, v.toInt < 0 → PicM A I' → FrM I I' → (∀ q, 94 < q → q ≠ 95 → I' q = I q) → Q (some (.int v)) I' L)
    (hyes : ∀ a b I', a < sn (kS (aK A)) → b < sn (kS (aK A)) → ¬ a = b → x = nI a → y = nI b → canS (kS (aK A)) → PicM (wK A (stS (kS (aK A)) a b, (aK A).2)) I' → FrM I I' → (∀ q, 95 < q → I' q = I q) → (∀ j, I' 93 j = I 93 j) → ∀ v, 0 ≤ v.toInt → Q (some (.int v)) I' L) : Zm G 188 [.ref 93, .int x, .int y] I L Q := by
  obtain ⟨⟨so, sz, sst, lo, po, eo⟩, ok0, ok1, oi0, oi1, ot, ob, of_, or_, oh⟩ := id ho
  obtain ⟨o1, o2, o3, o4, o5, o6, o7⟩ := id so
  obtain ⟨p1, p2, p3⟩ := id lo
  obtain ⟨u1, u2⟩ := id po
  obtain ⟨e1, e2⟩ := id eo
  obtain ⟨m3, ⟨mp, xp⟩, m4, ms1, ms2, ms3, mk0, mk1, mi0, mi1, mt, mb, mf, mr, mh⟩ := id pm
  by_cases v : (0 ≤ x.toInt ∧ x.toInt < (sn (kS (aK A)) : Int)) ∧ (0 ≤ y.toInt ∧ y.toInt < (sn (kS (aK A)) : Int)) ∧ ¬ x.toInt = y.toInt
  · obtain ⟨a, ha, rfl, ea⟩ := zin_nI v.1.1 v.1.2
    obtain ⟨b, hb0, rfl, eb⟩ := zin_nI v.2.1.1 v.2.1.2
    by_cases w : canS (kS (aK A))
    · have en := stS_n (kS (aK A)) a b
      have od := (so.st a b).2.2.2.1
      refine Zm.go [some (.ref _), some (.int _), some (.int _)] vl_188 rfl ?_
      refine Zp.aload_n k_188_0 rfl ?_
      refine Zp.iload_n k_188_1 rfl ?_
      refine Zp.iload_n k_188_2 rfl ?_
      refine Zp.callv2I v_156 k_188_3 m_93 (Nat.le_of_ble_eq_true rfl) (Nat.le_of_ble_eq_true rfl) (c_areTwoM m3 (by omega) ⟨_, rfl, ?_⟩)
      refine Zp.if_neB k_188_6 (fun c_6 => ?_) (fun c_6 => absurd c_6 (by omega))
      refine Zp.aload_n k_188_11 rfl ?_
      refine Zp.callv0V v_159 k_188_12 m_93 (Nat.le_of_ble_eq_true rfl) (Nat.le_of_ble_eq_true rfl) (c_goS pm ho (fun I2 pm2 mq xq s1 s2 => ⟨rfl, ?_⟩))
      refine Zp.aload_n k_188_15 rfl ?_
      refine Zp.iload_n k_188_16 rfl ?_
      refine Zp.iload_n k_188_17 rfl ?_
      refine Zp.callv2I v_169 k_188_18 m_93 (Nat.le_of_ble_eq_true rfl) (Nat.le_of_ble_eq_true rfl) (c_stirsM mq so (by omega) (by omega) (by omega) (fun I3 mp3 f3 => ⟨_, rfl, ?_⟩))
      refine Zp.if_neB k_188_21 (fun c_21 => ?_) (fun c_21 => (by first | exact absurd c_21 w | exact absurd w c_21))
      rw [if_pos w] at mp3
      refine Zp.aload_n k_188_27 rfl ?_
      refine Zp.callv0V v_160 k_188_28 m_93 (Nat.le_of_ble_eq_true rfl) (Nat.le_of_ble_eq_true rfl) (c_settlesM (fun I4 g1 g2 g3 => ⟨rfl, ?_⟩))
      have mq4 : Mp (I4 94) (stS (kS (aK A)) a b) := mp3.fr (by omega) (fun j hj => g1 j (by omega))
      refine Zp.aload_n k_188_31 rfl ?_
      refine Zp.getR k_188_32 rfl (zlt rfl) m_93 r_93_0 ?_
      refine Zp.bipush (nI 33) k_188_35 (by decide) ?_
      refine Zp.iald _ k_188_37 m_94 rfl (by omega) (zlt rfl) mq4.2.2.2.2.2.1 ?_
      refine Zp.iret _ k_188_38 vr_188 rfl ?_
      have f4 : ∀ q, q ≠ 94 → q ≠ 95 → I4 q = I q := fun q h h2 => (g3 q h).trans ((f3.1 q h2).trans (s2 q h2))
      refine hyes a b I4 ha hb0 (by omega) rfl rfl w (pm2.soup ho (stS_n _ a b) mq4 (fun j hj => ?_) (fun q h h2 => (g3 q h).trans (f3.1 q h2))) (fun q h => f4 q (by omega) (by omega)) (fun q h => f4 q (by omega) (by omega)) (fun j => by rw [f4 93 (by decide) (by decide)]) _ (by rw [nI_toInt (by omega)]; omega)
      by_cases c : j < 58
      · rw [g1 j c, f3.2 j hj]
        exact s1 j c
      · rw [g2 j (by omega), f3.1 94 (by decide)]
    · have nm : ¬ mayS (kS (aK A)) (nI a) (nI b) := fun z => w z.2
      refine Zm.go [some (.ref _), some (.int _), some (.int _)] vl_188 rfl ?_
      refine Zp.aload_n k_188_0 rfl ?_
      refine Zp.iload_n k_188_1 rfl ?_
      refine Zp.iload_n k_188_2 rfl ?_
      refine Zp.callv2I v_156 k_188_3 m_93 (Nat.le_of_ble_eq_true rfl) (Nat.le_of_ble_eq_true rfl) (c_areTwoM m3 (by omega) ⟨_, rfl, ?_⟩)
      refine Zp.if_neB k_188_6 (fun c_6 => ?_) (fun c_6 => absurd c_6 (by omega))
      refine Zp.aload_n k_188_11 rfl ?_
      refine Zp.callv0V v_159 k_188_12 m_93 (Nat.le_of_ble_eq_true rfl) (Nat.le_of_ble_eq_true rfl) (c_goM pm ho (fun I2 pm2 mq xq s2 => ⟨rfl, ?_⟩))
      refine Zp.aload_n k_188_15 rfl ?_
      refine Zp.iload_n k_188_16 rfl ?_
      refine Zp.iload_n k_188_17 rfl ?_
      refine Zp.callv2I v_169 k_188_18 m_93 (Nat.le_of_ble_eq_true rfl) (Nat.le_of_ble_eq_true rfl) (c_stirsM mq so (by omega) (by omega) (by omega) (fun I3 mp3 f3 => ⟨_, rfl, ?_⟩))
      refine Zp.if_neB k_188_21 (fun c_21 => (by first | exact absurd c_21 w | exact absurd w c_21)) (fun c_21 => ?_)
      refine Zp.bipush (-2) k_188_24 (by decide) ?_
      refine Zp.iret _ k_188_26 vr_188 rfl ?_
      exact hno nm I3 _ (by decide) (pm2.at f3.1) (fun q h => (f3.1 q (by omega)).trans (s2 q (by omega))) (fun q h h2 => (f3.1 q h2).trans (s2 q h2))
  · have nm : ¬ mayS (kS (aK A)) x y := fun z => v z.1
    refine Zm.go [some (.ref _), some (.int _), some (.int _)] vl_188 rfl ?_
    refine Zp.aload_n k_188_0 rfl ?_
    refine Zp.iload_n k_188_1 rfl ?_
    refine Zp.iload_n k_188_2 rfl ?_
    refine Zp.callv2I v_156 k_188_3 m_93 (Nat.le_of_ble_eq_true rfl) (Nat.le_of_ble_eq_true rfl) (c_areTwoM m3 (by omega) ⟨_, rfl, ?_⟩)
    refine Zp.if_neB k_188_6 (fun c_6 => (by first | exact absurd c_6 v | exact absurd v c_6)) (fun c_6 => ?_)
    refine Zp.iconst (-1) k_188_9 (by decide) ?_
    refine Zp.iret _ k_188_10 vr_188 rfl ?_
    exact hno nm I _ (by decide) pm (FrM.rf I) (fun _ _ _ => rfl)
end READ0
