/-! SLIPS, WHAT FITS, WHO FORGAVE, DRIFT -/
theorem Xp.bit {f g : Nat → Int32} {u v : Nat} {U : zPl} {E : zSe} (h : Xp f u U E) (hU : U.1 ≤ 8) (h35 : g 35 = nI v) (e : ∀ j, 36 ≤ j → g j = f j) : Xp g v U E := by
  obtain ⟨x1, x2, x3, x4, x5, x6⟩ := h
  exact ⟨h35, (e _ (by omega)).trans x2, fun k hk => (e _ (by omega)).trans (x3 k hk), (e _ (by omega)).trans x4, fun k hk => (e _ (by omega)).trans (x5 k hk), fun k hk => (e _ (by omega)).trans (x6 k hk)⟩
theorem Xp.at {f g : Nat → Int32} {u : Nat} {U : zPl} {E : zSe} (h : Xp f u U E) (e : ∀ j, 35 ≤ j → g j = f j) : Xp g u U E := by
  obtain ⟨x1, x2, x3, x4, x5, x6⟩ := h
  exact ⟨(e _ (by omega)).trans x1, (e _ (by omega)).trans x2, fun k hk => (e _ (by omega)).trans (x3 k hk), (e _ (by omega)).trans x4, fun k hk => (e _ (by omega)).trans (x5 k hk), fun k hk => (e _ (by omega)).trans (x6 k hk)⟩
/-- two stir n times unless the turning has ended -/
def sqG (T : zSo) (a b : Nat) : Nat → zSo
  | 0 => T
  | n + 1 => if sset (sqG T a b n) = 0 then stS (sqG T a b n) a b else sqG T a b n
theorem sqG_n (T : zSo) (a b : Nat) : ∀ i, sn (sqG T a b i) = sn T ∧ sstep (sqG T a b i) ≤ sstep T + i
  | 0 => ⟨rfl, Nat.le_refl _⟩
  | i + 1 => by
    obtain ⟨h1, h2⟩ := sqG_n T a b i
    unfold sqG
    split
    · exact ⟨(stS_n _ _ _).trans h1, by rw [stS_step]; omega⟩
    · exact ⟨h1, by omega⟩
theorem sqG_o {T : zSo} (ho : So T) (a b : Nat) : ∀ i, So (sqG T a b i)
  | 0 => ho
  | i + 1 => by
    unfold sqG
    split
    · exact (sqG_o ho a b i).st _ _
    · exact sqG_o ho a b i
/-- the soup with two hatreds told -/
def tdS (S : zSo) (a b c : Nat) : zSo := sUh (sUh S (a * 5 + b) (c / 10)) (b * 5 + a) (c % 10)
def soOk (S : zSo) (E : zSe) (a b c m : Nat) : Prop := ∀ n, n < m → ∀ i, i < E.1 → E.2.1 i = n → E.2.2 i = tn (sqG (tdS S a b c) a b n) a b
section FITS0
variable {G : zG} {A : zQs} {I : zI} {L : zJ} {Q : zP}
theorem c_wouldBe {a b c : Nat} (pc : PicC A I) (ho : Ao A) (ha : a < sn (kS (aK A))) (hb0 : b < sn (kS (aK A))) (hc : c < 100)
    (hq1 : soOk (kS (aK A)) (kE (aK A)) a b c 10 → ∀ I', (∀ q, q < 31 ∨ 33 < q → I' q = I q) → Q (some (.int (nI 1))) I' L)
    (hq0 : ¬ soOk (kS (aK A)) (kE (aK A)) a b c 10 → ∀ I', (∀ q, q < 31 ∨ 33 < q → I' q = I q) → Q (some (.int (nI 0))) I' L) : Zm G 111 [.ref 0, .int (nI a), .int (nI b), .int (nI c)] I L Q := by
  obtain ⟨⟨so, sz, sst, lo, po, eo⟩, ok0, ok1, oi0, oi1, ot, ob, of_, or_, oh⟩ := id ho
  obtain ⟨o1, o2, o3, o4, o5, o6, o7⟩ := id so
  obtain ⟨p1, p2, p3⟩ := id lo
  obtain ⟨u1, u2⟩ := id po
  obtain ⟨e1, e2⟩ := id eo
  obtain ⟨⟨hp, lp, pp, ep⟩, hk, hi0, hi1, ht, hb, hf, hr, hh⟩ := id pc
  have t0 : So (tdS (kS (aK A)) a b c) := (so.uh (by omega)).uh (by omega)
  have loop : ∀ k n (I1 : zI), n + k = 10 → Sp I1 31 (sqG (tdS (kS (aK A)) a b c) a b n) → soOk (kS (aK A)) (kE (aK A)) a b c n → (∀ q, q < 31 ∨ 33 < q → I1 q = I q) → Zp G 111 43 [some (.ref 0), some (.int (nI a)), some (.int (nI b)), some (.int (nI c)), some (.int (nI n))] [] I1 L Q := by
    intro k
    induction k with
    | zero =>
      intro n I1 hn h1 hs f1
      have e : n = 10 := by omega
      subst e
      refine Zp.iload k_111_43 rfl ?_
      refine Zp.bipush (nI 9) k_111_45 (by decide) ?_
      refine Zp.icmp_gtN k_111_47 (by omega) (by omega) (fun c_47 => ?_) (fun c_47 => absurd c_47 (by omega))
      refine Zp.iconst (nI 1) k_111_101 (by decide) ?_
      refine Zp.iret _ k_111_102 vr_111 rfl ?_
      exact hq1 hs I1 f1
    | succ k ih =>
      intro n I1 hn h1 hs f1
      have g1 := sqG_n (tdS (kS (aK A)) a b c) a b n
      have n1 : sn (tdS (kS (aK A)) a b c) = sn (kS (aK A)) := rfl
      have n2 : sstep (tdS (kS (aK A)) a b c) = sstep (kS (aK A)) := rfl
      have ho1 := sqG_o t0 a b n
      have ho5 := ho1.2.2.2.2.1
      have ht := tn_le ho1 a b
      have ep1 : Ep I1 11 (kE (aK A)) := ep.fr (f1 _ (by decide)) (f1 _ (by decide)) (f1 _ (by decide))
      have sq1 : sqG (tdS (kS (aK A)) a b c) a b (n + 1) = if sset (sqG (tdS (kS (aK A)) a b c) a b n) = 0 then stS (sqG (tdS (kS (aK A)) a b c) a b n) a b else sqG (tdS (kS (aK A)) a b c) a b n := rfl
      have ih1 := fun I2 => ih (n + 1) I2 (by omega)
      rw [sq1] at ih1
      refine Zp.iload k_111_43 rfl ?_
      refine Zp.bipush (nI 9) k_111_45 (by decide) ?_
      refine Zp.icmp_gtN k_111_47 (by omega) (by omega) (fun c_47 => absurd c_47 (by omega)) (fun c_47 => ?_)
      refine Zp.aload_n k_111_50 rfl ?_
      refine Zp.getR k_111_51 rfl (zlt rfl) m_0 r_0_0 ?_
      refine Zp.getR k_111_54 rfl (zlt rfl) m_1 r_1_3 ?_
      refine Zp.iload k_111_57 rfl ?_
      refine Zp.aload_n k_111_59 rfl ?_
      refine Zp.getR k_111_60 rfl (zlt rfl) m_0 r_0_5 ?_
      refine Zp.iload_n k_111_63 rfl ?_
      refine Zp.iload_n k_111_64 rfl ?_
      refine Zp.callv2I v_61 k_111_65 m_31 (Nat.le_of_ble_eq_true rfl) (Nat.le_of_ble_eq_true rfl) (c_turnOf sa_31 h1 ho1 (by omega) (by omega) ⟨_, rfl, ?_⟩)
      refine Zp.callv2I v_40 k_111_68 m_11 (Nat.le_of_ble_eq_true rfl) (Nat.le_of_ble_eq_true rfl) (c_allows ea_11 ep1 eo (by omega) (by omega) ⟨_, rfl, ?_⟩)
      refine Zp.if_neB k_111_71 (fun c_71 => ?_) (fun c_71 => ?_)
      · refine Zp.aload_n k_111_76 rfl ?_
        refine Zp.getR k_111_77 rfl (zlt rfl) m_0 r_0_5 ?_
        refine Zp.getV k_111_80 rfl (zlt rfl) m_31 h1.2.2.2.2.2.1 ?_
        refine Zp.if_neN k_111_83 (by omega) (fun c_83 => ?_) (fun c_83 => ?_)
        · refine Zp.iinc (nI (_ + 1)) [some (.ref _), some (.int _), some (.int _), some (.int _), some (.int _)] k_111_95 rfl (nI_1 _) (Nat.lt_of_lt_of_eq (zlt rfl : 4 < 5) vl_111.symm) rfl ?_
          refine Zp.goto k_111_98 ?_
          have hs1 : soOk (kS (aK A)) (kE (aK A)) a b c (n + 1) := fun m hm i hi he => by
            rcases (by omega : m < n ∨ m = n) with e | e
            · exact hs m e i hi he
            · subst e; exact c_71 i hi he
          first | (rw [if_pos c_83] at ih1; exact ih1 I2 hs2 hs1 (fun q h => (f2 q (by omega) (by omega)).trans (f1 q h))) | (rw [if_neg c_83] at ih1; exact ih1 I1 h1 hs1 f1)
        · refine Zp.aload_n k_111_86 rfl ?_
          refine Zp.getR k_111_87 rfl (zlt rfl) m_0 r_0_5 ?_
          refine Zp.iload_n k_111_90 rfl ?_
          refine Zp.iload_n k_111_91 rfl ?_
          refine Zp.callv2V v_63 k_111_92 m_31 (Nat.le_of_ble_eq_true rfl) (Nat.le_of_ble_eq_true rfl) (c_stirOnce sa_31 h1 ho1 (by omega) (by omega) (by omega) (fun I2 hs2 f2 => ⟨rfl, ?_⟩))
          refine Zp.iinc (nI (_ + 1)) [some (.ref _), some (.int _), some (.int _), some (.int _), some (.int _)] k_111_95 rfl (nI_1 _) (Nat.lt_of_lt_of_eq (zlt rfl : 4 < 5) vl_111.symm) rfl ?_
          refine Zp.goto k_111_98 ?_
          have hs1 : soOk (kS (aK A)) (kE (aK A)) a b c (n + 1) := fun m hm i hi he => by
            rcases (by omega : m < n ∨ m = n) with e | e
            · exact hs m e i hi he
            · subst e; exact c_71 i hi he
          first | (rw [if_pos c_83] at ih1; exact ih1 I2 hs2 hs1 (fun q h => (f2 q (by omega) (by omega)).trans (f1 q h))) | (rw [if_neg c_83] at ih1; exact ih1 I1 h1 hs1 f1)
      · refine Zp.iconst (nI 0) k_111_74 (by decide) ?_
        refine Zp.iret _ k_111_75 vr_111 rfl ?_
        exact hq0 (fun z => c_71 (z n (by omega))) I1 f1
  refine Zm.go [some (.ref _), some (.int _), some (.int _), some (.int _), none] vl_111 rfl ?_
  refine Zp.aload_n k_111_0 rfl ?_
  refine Zp.getR k_111_1 rfl (zlt rfl) m_0 r_0_5 ?_
  refine Zp.aload_n k_111_4 rfl ?_
  refine Zp.getR k_111_5 rfl (zlt rfl) m_0 r_0_0 ?_
  refine Zp.getR k_111_8 rfl (zlt rfl) m_1 r_1_0 ?_
  refine Zp.callv1V v_55 k_111_11 m_31 (Nat.le_of_ble_eq_true rfl) (Nat.le_of_ble_eq_true rfl) (c_Soup_copyFrom sa_31 sa_2 (by omega) hp so (fun I2 hs2 f2 => ⟨rfl, ?_⟩))
  refine Zp.aload_n k_111_14 rfl ?_
  refine Zp.getR k_111_15 rfl (zlt rfl) m_0 r_0_5 ?_
  refine Zp.iload_n k_111_18 rfl ?_
  refine Zp.iload_n k_111_19 rfl ?_
  refine Zp.iload_n k_111_20 rfl ?_
  refine Zp.bipush (nI 10) k_111_21 (by decide) ?_
  refine Zp.idivN k_111_23 (by omega) (by omega) (by omega) ?_
  refine Zp.callv3V v_59 k_111_24 m_31 (Nat.le_of_ble_eq_true rfl) (Nat.le_of_ble_eq_true rfl) (c_setHatred sa_31 (by omega) (by omega) ⟨rfl, ?_⟩)
  refine Zp.aload_n k_111_27 rfl ?_
  refine Zp.getR k_111_28 rfl (zlt rfl) m_0 r_0_5 ?_
  refine Zp.iload_n k_111_31 rfl ?_
  refine Zp.iload_n k_111_32 rfl ?_
  refine Zp.iload_n k_111_33 rfl ?_
  refine Zp.bipush (nI 10) k_111_34 (by decide) ?_
  refine Zp.iremN k_111_36 (by omega) (by omega) (by omega) ?_
  refine Zp.callv3V v_59 k_111_37 m_31 (Nat.le_of_ble_eq_true rfl) (Nat.le_of_ble_eq_true rfl) (c_setHatred sa_31 (by omega) (by omega) ⟨rfl, ?_⟩)
  refine Zp.iconst (nI 0) k_111_40 (by decide) ?_
  refine Zp.istore [some (.ref _), some (.int _), some (.int _), some (.int _), some (.int _)] k_111_41 (Nat.lt_of_lt_of_eq (zlt rfl : 4 < 5) vl_111.symm) rfl ?_
  refine loop 10 0 _ (by omega) ((hs2.uh rfl).uh rfl) (fun n hn => absurd hn (Nat.not_lt_zero n)) (fun q h => ?_)
  rw [zpu_q _ _ _ (by omega), zpu_q _ _ _ (by omega)]
  exact f2 q (by omega) (by omega) (by omega)
end FITS0
