/-! WHAT FITS, WHO FORGAVE -/
def soB (S : zSo) (E : zSe) (a b c : Nat) : Bool := (List.range 10).all fun n => (List.range E.1).all fun i => !(E.2.1 i == n) || E.2.2 i == tn (sqG (tdS S a b c) a b n) a b
theorem soB_ok (S : zSo) (E : zSe) (a b c : Nat) : soB S E a b c = true ↔ soOk S E a b c 10 := by
  unfold soB soOk
  simp only [List.all_eq_true, List.mem_range, Bool.or_eq_true, Bool.not_eq_true', beq_eq_false_iff_ne, beq_iff_eq]
  constructor
  · intro h n hn i hi he
    rcases h n hn i hi with z | z
    · exact absurd he z
    · exact z
  · intro h n hn i hi
    by_cases e : E.2.1 i = n
    · exact Or.inr (h n hn i hi e)
    · exact Or.inl e
def fiF (S : zSo) (E : zSe) (a b : Nat) : Nat → Nat × Int32 × Int32
  | 0 => (0, -4, -4)
  | i + 1 => if soB S E a b i = true then ((fiF S E a b i).1 + 1, if (fiF S E a b i).1 = 0 then nI i else (fiF S E a b i).2.1, nI i) else fiF S E a b i
theorem fiF_le (S : zSo) (E : zSe) (a b : Nat) : ∀ i, (fiF S E a b i).1 ≤ i
  | 0 => Nat.le_refl 0
  | i + 1 => by
    have := fiF_le S E a b i
    unfold fiF
    split
    · show _ + 1 ≤ _; omega
    · omega
/-- the bits of those whose forgiving makes the plan do v -/
def fvF (S : zSo) (U : zPl) (v : Nat) : Nat → Int32
  | 0 => nI 0
  | a + 1 => if sdone (plG (fgS S a) U.2 U.1) = v then fvF S U v a ||| (nI 1 <<< (nI a &&& 31)) else fvF S U v a
theorem or0 (x : Int32) {a : Nat} (h : a < 5) : (x ||| (nI 0 <<< (nI a &&& 31))) = x := by
  have : ∀ a, a < 5 → (nI 0 <<< (nI a &&& 31)) = nI 0 := by decide +kernel
  rw [this a h]
  exact Int32.or_zero
section FITS2
variable {G : zG} {A : zQs} {I : zI} {L : zJ} {Q : zP}
theorem c_isSoM {a b c : Nat} (pm : PicM A I) (ho : Ao A) (ha : a < sn (kS (aK A))) (hb0 : b < sn (kS (aK A))) (hc : c < 100)
    (hq1 : soOk (kS (aK A)) (kE (aK A)) a b c 10 → ∀ I', (∀ q, q ≠ 95 → I' q = I q) → Q (some (.int (nI 1))) I' L)
    (hq0 : ¬ soOk (kS (aK A)) (kE (aK A)) a b c 10 → ∀ I', (∀ q, q ≠ 95 → I' q = I q) → Q (some (.int (nI 0))) I' L) : Zm G 210 [.ref 93, .int (nI a), .int (nI b), .int (nI (c / 10)), .int (nI (c % 10))] I L Q := by
  obtain ⟨⟨so, sz, sst, lo, po, eo⟩, ok0, ok1, oi0, oi1, ot, ob, of_, or_, oh⟩ := id ho
  obtain ⟨o1, o2, o3, o4, o5, o6, o7⟩ := id so
  obtain ⟨p1, p2, p3⟩ := id lo
  obtain ⟨u1, u2⟩ := id po
  obtain ⟨e1, e2⟩ := id eo
  have t0 : So (tdS (kS (aK A)) a b c) := (so.uh (by omega)).uh (by omega)
  have lcN : ∀ (v1 v2 v3 v4 v5 v6 v7 v8 : Value) (j : Nat) (u : Value), ([some v1, some v2, some v3, some v4, some v5, some v6, some v7, none] : List (Option Value))[j]? = some (some u) → ([some v1, some v2, some v3, some v4, some v5, some v6, some v7, some v8] : List (Option Value))[j]? = some (some u) := by
    intro v1 v2 v3 v4 v5 v6 v7 v8 j u hj
    match j, hj with
    | 0, hj => exact hj
    | 1, hj => exact hj
    | 2, hj => exact hj
    | 3, hj => exact hj
    | 4, hj => exact hj
    | 5, hj => exact hj
    | 6, hj => exact hj
    | 7, hj => exact absurd hj (by simp)
    | _ + 8, hj => exact absurd hj (by simp)
  have inner : ∀ (n w : Nat) (I1 : zI), n < 10 → PicM A I1 → Mp (I1 95) (sqG (tdS (kS (aK A)) a b c) a b n) → (∀ w', w' ≤ 1 → (w' = 1 ↔ soOk (kS (aK A)) (kE (aK A)) a b c (n + 1)) → Zp G 210 105 [some (.ref 93), some (.int (nI a)), some (.int (nI b)), some (.int (nI (c / 10))), some (.int (nI (c % 10))), some (.int (nI w')), some (.int (nI n)), none] [] I1 L Q) →
      w ≤ 1 → ∀ k i, i + k = (kE (aK A)).1 → (w = 1 ↔ soOk (kS (aK A)) (kE (aK A)) a b c n ∧ ∀ j, j < i → (kE (aK A)).2.1 j = n → (kE (aK A)).2.2 j = tn (sqG (tdS (kS (aK A)) a b c) a b n) a b) → Zp G 210 35 [some (.ref 93), some (.int (nI a)), some (.int (nI b)), some (.int (nI (c / 10))), some (.int (nI (c % 10))), some (.int (nI w)), some (.int (nI n)), some (.int (nI i))] [] I1 L Q := by
    intro n w I1 hn pm1 mq1 nx hw k
    have g1 := sqG_n (tdS (kS (aK A)) a b c) a b n
    have n1 : sn (tdS (kS (aK A)) a b c) = sn (kS (aK A)) := rfl
    have ho1 := sqG_o t0 a b n
    have ht := tn_le ho1 a b
    obtain ⟨m3, ⟨mp, xp⟩, m4, ms1, ms2, ms3, mk0, mk1, mi0, mi1, mt, mb, mf, mr, mh⟩ := id pm1
    induction k generalizing w with
    | zero =>
      intro i hi hs
      have e : i = (kE (aK A)).1 := by omega
      subst e
      have hs1 : w = 1 ↔ soOk (kS (aK A)) (kE (aK A)) a b c (n + 1) := hs.trans ⟨fun z m hm j hj he => by
          rcases (by omega : m < n ∨ m = n) with e | e
          · exact z.1 m e j hj he
          · subst e; exact z.2 j hj he, fun z => ⟨fun m hm => z m (by omega), fun j hj => z n (by omega) j hj⟩⟩
      refine Zp.iload k_210_35 rfl ?_
      refine Zp.aload_n k_210_37 rfl ?_
      refine Zp.getR k_210_38 rfl (zlt rfl) m_93 r_93_0 ?_
      refine Zp.bipush (nI 45) k_210_41 (by decide) ?_
      refine Zp.iald _ k_210_43 m_94 rfl (by omega) (zlt rfl) xp.2.2.2.1 ?_
      refine Zp.icmp_geN k_210_44 (by omega) (by omega) (fun c_44 => ?_) (fun c_44 => absurd c_44 (by omega))
      exact Zp.locs _ (lcN _ _ _ _ _ _ _ _) (nx w hw hs1)
    | succ k ih =>
      intro i hi hs
      obtain ⟨b1, b2⟩ := e2 i (by omega)
      have ih1 := fun w' hw' => ih w' hw' (i + 1) (by omega)
      have st : ∀ w', (w' = 1 ↔ w = 1 ∧ ((kE (aK A)).2.1 i = n → (kE (aK A)).2.2 i = tn (sqG (tdS (kS (aK A)) a b c) a b n) a b)) → (w' = 1 ↔ soOk (kS (aK A)) (kE (aK A)) a b c n ∧ ∀ j, j < i + 1 → (kE (aK A)).2.1 j = n → (kE (aK A)).2.2 j = tn (sqG (tdS (kS (aK A)) a b c) a b n) a b) := fun w' hw' => by
        rw [hw', hs]
        constructor
        · intro z
          refine ⟨z.1.1, fun j hj he => ?_⟩
          rcases (by omega : j < i ∨ j = i) with e | e
          · exact z.1.2 j e he
          · subst e; exact z.2 he
        · intro z
          exact ⟨⟨z.1, fun j hj => z.2 j (by omega)⟩, z.2 i (by omega)⟩
      refine Zp.iload k_210_35 rfl ?_
      refine Zp.aload_n k_210_37 rfl ?_
      refine Zp.getR k_210_38 rfl (zlt rfl) m_93 r_93_0 ?_
      refine Zp.bipush (nI 45) k_210_41 (by decide) ?_
      refine Zp.iald _ k_210_43 m_94 rfl (by omega) (zlt rfl) xp.2.2.2.1 ?_
      refine Zp.icmp_geN k_210_44 (by omega) (by omega) (fun c_44 => absurd c_44 (by omega)) (fun c_44 => ?_)
      refine Zp.iload k_210_47 rfl ?_
      refine Zp.if_eqN k_210_49 (by omega) (fun c_49 => ?_) (fun c_49 => ?_)
      · refine Zp.iconst (nI 0) k_210_96 (by decide) ?_
        refine Zp.istore [some (.ref _), some (.int _), some (.int _), some (.int _), some (.int _), some (.int _), some (.int _), some (.int _)] k_210_97 (Nat.lt_of_lt_of_eq (zlt rfl : 5 < 8) vl_210.symm) rfl ?_
        refine Zp.iinc (nI (_ + 1)) [some (.ref _), some (.int _), some (.int _), some (.int _), some (.int _), some (.int _), some (.int _), some (.int _)] k_210_99 rfl (nI_1 _) (Nat.lt_of_lt_of_eq (zlt rfl : 7 < 8) vl_210.symm) rfl ?_
        refine Zp.goto k_210_102 ?_
        first | exact ih1 1 (by decide) (st 1 ⟨fun _ => ⟨by omega, fun z => by omega⟩, fun _ => rfl⟩) | exact ih1 0 (by decide) (st 0 ⟨fun z => absurd z (by decide), fun z => absurd z.1 (by omega)⟩) | exact ih1 0 (by decide) (st 0 ⟨fun z => absurd z (by decide), fun z => absurd (z.2 (by omega)) (by omega)⟩)
      · refine Zp.aload_n k_210_52 rfl ?_
        refine Zp.getR k_210_53 rfl (zlt rfl) m_93 r_93_0 ?_
        refine Zp.bipush (nI 46) k_210_56 (by decide) ?_
        refine Zp.iconst (nI 2) k_210_58 (by decide) ?_
        refine Zp.iload k_210_59 rfl ?_
        refine Zp.imulN k_210_61 ?_
        refine Zp.iaddN k_210_62 ?_
        refine Zp.iald _ k_210_63 m_94 rfl (by omega) (zlt rfl) (xp.2.2.2.2.1 _ (by omega)) ?_
        refine Zp.iload k_210_64 rfl ?_
        refine Zp.icmp_neN k_210_66 (by omega) (by omega) (fun c_66 => ?_) (fun c_66 => ?_)
        · refine Zp.iconst (nI 1) k_210_92 (by decide) ?_
          refine Zp.goto k_210_93 ?_
          refine Zp.istore [some (.ref _), some (.int _), some (.int _), some (.int _), some (.int _), some (.int _), some (.int _), some (.int _)] k_210_97 (Nat.lt_of_lt_of_eq (zlt rfl : 5 < 8) vl_210.symm) rfl ?_
          refine Zp.iinc (nI (_ + 1)) [some (.ref _), some (.int _), some (.int _), some (.int _), some (.int _), some (.int _), some (.int _), some (.int _)] k_210_99 rfl (nI_1 _) (Nat.lt_of_lt_of_eq (zlt rfl : 7 < 8) vl_210.symm) rfl ?_
          refine Zp.goto k_210_102 ?_
          first | exact ih1 1 (by decide) (st 1 ⟨fun _ => ⟨by omega, fun z => by omega⟩, fun _ => rfl⟩) | exact ih1 0 (by decide) (st 0 ⟨fun z => absurd z (by decide), fun z => absurd z.1 (by omega)⟩) | exact ih1 0 (by decide) (st 0 ⟨fun z => absurd z (by decide), fun z => absurd (z.2 (by omega)) (by omega)⟩)
        · refine Zp.aload_n k_210_69 rfl ?_
          refine Zp.iload_n k_210_70 rfl ?_
          refine Zp.iload_n k_210_71 rfl ?_
          refine Zp.callv2I v_165 k_210_72 m_93 (Nat.le_of_ble_eq_true rfl) (Nat.le_of_ble_eq_true rfl) (c_turnOfM mq1 ho1 (by omega) (by omega) ⟨_, rfl, ?_⟩)
          refine Zp.aload_n k_210_75 rfl ?_
          refine Zp.getR k_210_76 rfl (zlt rfl) m_93 r_93_0 ?_
          refine Zp.bipush (nI 46) k_210_79 (by decide) ?_
          refine Zp.iconst (nI 2) k_210_81 (by decide) ?_
          refine Zp.iload k_210_82 rfl ?_
          refine Zp.imulN k_210_84 ?_
          refine Zp.iaddN k_210_85 ?_
          refine Zp.iconst (nI 1) k_210_86 (by decide) ?_
          refine Zp.iaddN k_210_87 ?_
          refine Zp.iald _ k_210_88 m_94 rfl (by omega) (zlt rfl) (xp.2.2.2.2.2 _ (by omega)) ?_
          refine Zp.icmp_neN k_210_89 (by omega) (by omega) (fun c_89 => ?_) (fun c_89 => ?_)
          · refine Zp.iconst (nI 0) k_210_96 (by decide) ?_
            refine Zp.istore [some (.ref _), some (.int _), some (.int _), some (.int _), some (.int _), some (.int _), some (.int _), some (.int _)] k_210_97 (Nat.lt_of_lt_of_eq (zlt rfl : 5 < 8) vl_210.symm) rfl ?_
            refine Zp.iinc (nI (_ + 1)) [some (.ref _), some (.int _), some (.int _), some (.int _), some (.int _), some (.int _), some (.int _), some (.int _)] k_210_99 rfl (nI_1 _) (Nat.lt_of_lt_of_eq (zlt rfl : 7 < 8) vl_210.symm) rfl ?_
            refine Zp.goto k_210_102 ?_
            first | exact ih1 1 (by decide) (st 1 ⟨fun _ => ⟨by omega, fun z => by omega⟩, fun _ => rfl⟩) | exact ih1 0 (by decide) (st 0 ⟨fun z => absurd z (by decide), fun z => absurd z.1 (by omega)⟩) | exact ih1 0 (by decide) (st 0 ⟨fun z => absurd z (by decide), fun z => absurd (z.2 (by omega)) (by omega)⟩)
          · refine Zp.iconst (nI 1) k_210_92 (by decide) ?_
            refine Zp.goto k_210_93 ?_
            refine Zp.istore [some (.ref _), some (.int _), some (.int _), some (.int _), some (.int _), some (.int _), some (.int _), some (.int _)] k_210_97 (Nat.lt_of_lt_of_eq (zlt rfl : 5 < 8) vl_210.symm) rfl ?_
            refine Zp.iinc (nI (_ + 1)) [some (.ref _), some (.int _), some (.int _), some (.int _), some (.int _), some (.int _), some (.int _), some (.int _)] k_210_99 rfl (nI_1 _) (Nat.lt_of_lt_of_eq (zlt rfl : 7 < 8) vl_210.symm) rfl ?_
            refine Zp.goto k_210_102 ?_
            first | exact ih1 1 (by decide) (st 1 ⟨fun _ => ⟨by omega, fun z => by omega⟩, fun _ => rfl⟩) | exact ih1 0 (by decide) (st 0 ⟨fun z => absurd z (by decide), fun z => absurd z.1 (by omega)⟩) | exact ih1 0 (by decide) (st 0 ⟨fun z => absurd z (by decide), fun z => absurd (z.2 (by omega)) (by omega)⟩)
  have loop : ∀ k n (w : Nat) (I1 : zI), n + k = 10 → w ≤ 1 → (w = 1 ↔ soOk (kS (aK A)) (kE (aK A)) a b c n) → Mp (I1 95) (sqG (tdS (kS (aK A)) a b c) a b n) → (∀ q, q ≠ 95 → I1 q = I q) → Zp G 210 25 [some (.ref 93), some (.int (nI a)), some (.int (nI b)), some (.int (nI (c / 10))), some (.int (nI (c % 10))), some (.int (nI w)), some (.int (nI n)), none] [] I1 L Q := by
    intro k
    induction k with
    | zero =>
      intro n w I1 hn hw hs mq1 f1
      have e : n = 10 := by omega
      subst e
      refine Zp.iload k_210_25 rfl ?_
      refine Zp.bipush (nI 9) k_210_27 (by decide) ?_
      refine Zp.icmp_gtN k_210_29 (by omega) (by omega) (fun c_29 => ?_) (fun c_29 => absurd c_29 (by omega))
      refine Zp.iload k_210_118 rfl ?_
      refine Zp.iret _ k_210_120 vr_210 (by rcases (by omega : w = 0 ∨ w = 1) with rfl | rfl <;> rfl) ?_
      rcases (by omega : w = 0 ∨ w = 1) with rfl | rfl
      · exact hq0 (fun z => absurd (hs.mpr z) (by decide)) I1 f1
      · exact hq1 (hs.mp rfl) I1 f1
    | succ k ih =>
      intro n w I1 hn hw hs mq1 f1
      have pm1 := pm.at f1
      have g1 := sqG_n (tdS (kS (aK A)) a b c) a b n
      have n1 : sn (tdS (kS (aK A)) a b c) = sn (kS (aK A)) := rfl
      have n2 : sstep (tdS (kS (aK A)) a b c) = sstep (kS (aK A)) := rfl
      have ho1 := sqG_o t0 a b n
      have sq1 : sqG (tdS (kS (aK A)) a b c) a b (n + 1) = if sset (sqG (tdS (kS (aK A)) a b c) a b n) = 0 then stS (sqG (tdS (kS (aK A)) a b c) a b n) a b else sqG (tdS (kS (aK A)) a b c) a b n := rfl
      have nx : ∀ w', w' ≤ 1 → (w' = 1 ↔ soOk (kS (aK A)) (kE (aK A)) a b c (n + 1)) → Zp G 210 105 [some (.ref 93), some (.int (nI a)), some (.int (nI b)), some (.int (nI (c / 10))), some (.int (nI (c % 10))), some (.int (nI w')), some (.int (nI n)), none] [] I1 L Q := by
        intro w' hw' hs'
        have tl : ∀ (I2 : zI) (v : Int32), Mp (I2 95) (sqG (tdS (kS (aK A)) a b c) a b (n + 1)) → (∀ q, q ≠ 95 → I2 q = I q) → Zp G 210 111 [some (.ref 93), some (.int (nI a)), some (.int (nI b)), some (.int (nI (c / 10))), some (.int (nI (c % 10))), some (.int (nI w')), some (.int (nI n)), none] [.int v] I2 L Q := by
          intro I2 v m2 f2
          refine Zp.pop k_210_111 rfl ?_
          refine Zp.iinc (nI (_ + 1)) [some (.ref _), some (.int _), some (.int _), some (.int _), some (.int _), some (.int _), some (.int _), none] k_210_112 rfl (nI_1 _) (Nat.lt_of_lt_of_eq (zlt rfl : 6 < 8) vl_210.symm) rfl ?_
          refine Zp.goto k_210_115 ?_
          exact ih (n + 1) w' I2 (by omega) hw' hs' m2 f2
        refine Zp.aload_n k_210_105 rfl ?_
        refine Zp.iload_n k_210_106 rfl ?_
        refine Zp.iload_n k_210_107 rfl ?_
        refine Zp.callv2I v_168 k_210_108 m_93 (Nat.le_of_ble_eq_true rfl) (Nat.le_of_ble_eq_true rfl) (c_stirsOnM mq1 ho1 (by omega) (by omega) (by omega) (fun h9 => ⟨_, rfl, tl I1 _ (by rw [sq1, if_neg (by omega)]; exact mq1) f1⟩) (fun h9 I2 mq2 f2 => ⟨_, rfl, tl I2 _ (by rw [sq1, if_pos h9]; exact mq2) (fun q h => (f2.1 q h).trans (f1 q h))⟩))
        
      refine Zp.iload k_210_25 rfl ?_
      refine Zp.bipush (nI 9) k_210_27 (by decide) ?_
      refine Zp.icmp_gtN k_210_29 (by omega) (by omega) (fun c_29 => absurd c_29 (by omega)) (fun c_29 => ?_)
      refine Zp.iconst (nI 0) k_210_32 (by decide) ?_
      refine Zp.istore [some (.ref _), some (.int _), some (.int _), some (.int _), some (.int _), some (.int _), some (.int _), some (.int _)] k_210_33 (Nat.lt_of_lt_of_eq (zlt rfl : 7 < 8) vl_210.symm) rfl ?_
      exact inner n w I1 (by omega) pm1 mq1 nx hw (kE (aK A)).1 0 (by omega) (hs.trans ⟨fun z => ⟨z, fun j hj => absurd hj (Nat.not_lt_zero j)⟩, fun z => z.1⟩)
  refine Zm.go [some (.ref _), some (.int _), some (.int _), some (.int _), some (.int _), none, none, none] vl_210 rfl ?_
  refine Zp.iconst (nI 1) k_210_0 (by decide) ?_
  refine Zp.istore [some (.ref _), some (.int _), some (.int _), some (.int _), some (.int _), some (.int _), none, none] k_210_1 (Nat.lt_of_lt_of_eq (zlt rfl : 5 < 8) vl_210.symm) rfl ?_
  refine Zp.aload_n k_210_3 rfl ?_
  refine Zp.callv0V v_159 k_210_4 m_93 (Nat.le_of_ble_eq_true rfl) (Nat.le_of_ble_eq_true rfl) (c_goM pm ho (fun I2 pm2 mq xq s2 => ⟨rfl, ?_⟩))
  refine Zp.aload_n k_210_7 rfl ?_
  refine Zp.iload_n k_210_8 rfl ?_
  refine Zp.iload_n k_210_9 rfl ?_
  refine Zp.iload_n k_210_10 rfl ?_
  refine Zp.callv3V v_162 k_210_11 m_93 (Nat.le_of_ble_eq_true rfl) (Nat.le_of_ble_eq_true rfl) (c_becomesHateM mq o1 (by omega) (by omega) (v := c / 10) (by rw [nI_toInt (by omega)]; omega) (fun I3 mq3 f3 => ⟨rfl, ?_⟩))
  refine Zp.aload_n k_210_14 rfl ?_
  refine Zp.iload_n k_210_15 rfl ?_
  refine Zp.iload_n k_210_16 rfl ?_
  refine Zp.iload k_210_17 rfl ?_
  refine Zp.callv3V v_162 k_210_19 m_93 (Nat.le_of_ble_eq_true rfl) (Nat.le_of_ble_eq_true rfl) (c_becomesHateM mq3 (by show sn (kS (aK A)) ≤ 5; omega) (by omega) (by omega) (v := c % 10) (by rw [nI_toInt (by omega)]; omega) (fun I4 mq4 f4 => ⟨rfl, ?_⟩))
  refine Zp.iconst (nI 0) k_210_22 (by decide) ?_
  refine Zp.istore [some (.ref _), some (.int _), some (.int _), some (.int _), some (.int _), some (.int _), some (.int _), none] k_210_23 (Nat.lt_of_lt_of_eq (zlt rfl : 6 < 8) vl_210.symm) rfl ?_
  exact loop 10 0 1 I4 (by omega) (by decide) ⟨fun _ n hn => absurd hn (Nat.not_lt_zero n), fun _ => rfl⟩ mq4 (fun q h => (f4.1 q h).trans ((f3.1 q h).trans (s2 q h)))
end FITS2
section FITS3
variable {G : zG} {A : zQs} {x y z : Int32}
theorem B_fits (ho : Ao A) : zBoth G 110 211 [.int x, .int y, .int z] A := by
  obtain ⟨⟨so, sz, sst, lo, po, eo⟩, ok0, ok1, oi0, oi1, ot, ob, of_, or_, oh⟩ := id ho
  obtain ⟨o1, o2, o3, o4, o5, o6, o7⟩ := id so
  obtain ⟨p1, p2, p3⟩ := id lo
  obtain ⟨u1, u2⟩ := id po
  obtain ⟨e1, e2⟩ := id eo
  by_cases v : (0 ≤ x.toInt ∧ x.toInt < (sn (kS (aK A)) : Int)) ∧ (0 ≤ y.toInt ∧ y.toInt < (sn (kS (aK A)) : Int)) ∧ ¬ x.toInt = y.toInt
  · by_cases w : 0 ≤ z.toInt ∧ z.toInt ≤ 2
    · obtain ⟨a, ha, rfl, ea⟩ := zin_nI v.1.1 v.1.2
      obtain ⟨b, hb0, rfl, eb⟩ := zin_nI v.2.1.1 v.2.1.2
      obtain ⟨c, hc, rfl, ec⟩ := zin_nI (n := 3) w.1 (by omega)
      refine ⟨.int (if c = 0 then nI (fiF (kS (aK A)) (kE (aK A)) a b 100).1 else if c = 1 then (fiF (kS (aK A)) (kE (aK A)) a b 100).2.1 else (fiF (kS (aK A)) (kE (aK A)) a b 100).2.2), A, ho, fun I L Q pc hq => ?_, fun I L Q pm hq => ?_⟩
      · obtain ⟨⟨hp, lp, pp, ep⟩, hk, hi0, hi1, ht, hb, hf, hr, hh⟩ := id pc
        have loop : ∀ k i (I1 : zI), i + k = 100 → (∀ q, q < 31 ∨ 33 < q → I1 q = I q) → Zp G 110 40 [some (.ref 0), some (.int (nI a)), some (.int (nI b)), some (.int (nI c)), some (.int (nI (fiF (kS (aK A)) (kE (aK A)) a b i).1)), some (.int (fiF (kS (aK A)) (kE (aK A)) a b i).2.1), some (.int (fiF (kS (aK A)) (kE (aK A)) a b i).2.2), some (.int (nI i))] [] I1 L Q := by
          intro k
          induction k with
          | zero =>
            intro i I1 hi f1
            have e : i = 100 := by omega
            subst e
            have hq1 := hq I1 (pc.try_ f1) (fun q h => f1 q (by omega))
            refine Zp.iload k_110_40 rfl ?_
            refine Zp.bipush (nI 100) k_110_42 (by decide) ?_
            refine Zp.icmp_geN k_110_44 (by omega) (by omega) (fun c_44 => ?_) (fun c_44 => absurd c_44 (by omega))
            refine Zp.iload_n k_110_85 rfl ?_
            refine Zp.if_neN k_110_86 (by omega) (fun c_86 => ?_) (fun c_86 => ?_)
            · refine Zp.iload_n k_110_92 rfl ?_
              refine Zp.iconst (nI 1) k_110_93 (by decide) ?_
              refine Zp.icmp_neN k_110_94 (by omega) (by omega) (fun c_94 => ?_) (fun c_94 => ?_)
              · refine Zp.iload k_110_102 rfl ?_
                refine Zp.iret _ k_110_104 vr_110 rfl ?_
                first | (rw [if_pos c_86] at hq1; exact hq1) | (rw [if_neg c_86, if_pos c_94] at hq1; exact hq1) | (rw [if_neg c_86, if_neg c_94] at hq1; exact hq1)
              · refine Zp.iload k_110_97 rfl ?_
                refine Zp.goto k_110_99 ?_
                refine Zp.iret _ k_110_104 vr_110 rfl ?_
                first | (rw [if_pos c_86] at hq1; exact hq1) | (rw [if_neg c_86, if_pos c_94] at hq1; exact hq1) | (rw [if_neg c_86, if_neg c_94] at hq1; exact hq1)
            · refine Zp.iload k_110_89 rfl ?_
              refine Zp.iret _ k_110_91 vr_110 rfl ?_
              first | (rw [if_pos c_86] at hq1; exact hq1) | (rw [if_neg c_86, if_pos c_94] at hq1; exact hq1) | (rw [if_neg c_86, if_neg c_94] at hq1; exact hq1)
          | succ k ih =>
            intro i I1 hi f1
            have ml := fiF_le (kS (aK A)) (kE (aK A)) a b i
            have sb := soB_ok (kS (aK A)) (kE (aK A)) a b i
            have ih1 := fun I2 => ih (i + 1) I2 (by omega)
            rw [show fiF (kS (aK A)) (kE (aK A)) a b (i + 1) = if soB (kS (aK A)) (kE (aK A)) a b i = true then ((fiF (kS (aK A)) (kE (aK A)) a b i).1 + 1, if (fiF (kS (aK A)) (kE (aK A)) a b i).1 = 0 then nI i else (fiF (kS (aK A)) (kE (aK A)) a b i).2.1, nI i) else fiF (kS (aK A)) (kE (aK A)) a b i from rfl] at ih1
            have tl : ∀ (I2 : zI) (u : Nat), u ≤ 1 → (u = 1 ↔ soB (kS (aK A)) (kE (aK A)) a b i = true) → (∀ q, q < 31 ∨ 33 < q → I2 q = I q) → Zp G 110 55 [some (.ref 0), some (.int (nI a)), some (.int (nI b)), some (.int (nI c)), some (.int (nI (fiF (kS (aK A)) (kE (aK A)) a b i).1)), some (.int (fiF (kS (aK A)) (kE (aK A)) a b i).2.1), some (.int (fiF (kS (aK A)) (kE (aK A)) a b i).2.2), some (.int (nI i))] [.int (nI u)] I2 L Q := by
              intro I2 u hu hus f2
              refine Zp.if_eqN k_110_55 (by omega) (fun c_55 => ?_) (fun c_55 => ?_)
              · refine Zp.iinc (nI (_ + 1)) [some (.ref _), some (.int _), some (.int _), some (.int _), some (.int _), some (.int _), some (.int _), some (.int _)] k_110_79 rfl (nI_1 _) (Nat.lt_of_lt_of_eq (zlt rfl : 7 < 8) vl_110.symm) rfl ?_
                refine Zp.goto k_110_82 ?_
                first | (rw [if_neg (fun z => by have := hus.mpr z; omega)] at ih1; exact ih1 I2 f2) | (rw [if_pos (hus.mp (by omega)), if_pos c_60] at ih1; exact ih1 I2 f2) | (rw [if_pos (hus.mp (by omega)), if_neg c_60] at ih1; exact ih1 I2 f2)
              · refine Zp.iload k_110_58 rfl ?_
                refine Zp.if_neN k_110_60 (by omega) (fun c_60 => ?_) (fun c_60 => ?_)
                · refine Zp.iload k_110_68 rfl ?_
                  refine Zp.istore [some (.ref _), some (.int _), some (.int _), some (.int _), some (.int _), some (.int _), some (.int _), some (.int _)] k_110_70 (Nat.lt_of_lt_of_eq (zlt rfl : 5 < 8) vl_110.symm) rfl ?_
                  refine Zp.iload k_110_72 rfl ?_
                  refine Zp.istore [some (.ref _), some (.int _), some (.int _), some (.int _), some (.int _), some (.int _), some (.int _), some (.int _)] k_110_74 (Nat.lt_of_lt_of_eq (zlt rfl : 6 < 8) vl_110.symm) rfl ?_
                  refine Zp.iinc (nI (_ + 1)) [some (.ref _), some (.int _), some (.int _), some (.int _), some (.int _), some (.int _), some (.int _), some (.int _)] k_110_76 rfl (nI_1 _) (Nat.lt_of_lt_of_eq (zlt rfl : 4 < 8) vl_110.symm) rfl ?_
                  refine Zp.iinc (nI (_ + 1)) [some (.ref _), some (.int _), some (.int _), some (.int _), some (.int _), some (.int _), some (.int _), some (.int _)] k_110_79 rfl (nI_1 _) (Nat.lt_of_lt_of_eq (zlt rfl : 7 < 8) vl_110.symm) rfl ?_
                  refine Zp.goto k_110_82 ?_
                  first | (rw [if_neg (fun z => by have := hus.mpr z; omega)] at ih1; exact ih1 I2 f2) | (rw [if_pos (hus.mp (by omega)), if_pos c_60] at ih1; exact ih1 I2 f2) | (rw [if_pos (hus.mp (by omega)), if_neg c_60] at ih1; exact ih1 I2 f2)
                · refine Zp.iload k_110_63 rfl ?_
                  refine Zp.goto k_110_65 ?_
                  refine Zp.istore [some (.ref _), some (.int _), some (.int _), some (.int _), some (.int _), some (.int _), some (.int _), some (.int _)] k_110_70 (Nat.lt_of_lt_of_eq (zlt rfl : 5 < 8) vl_110.symm) rfl ?_
                  refine Zp.iload k_110_72 rfl ?_
                  refine Zp.istore [some (.ref _), some (.int _), some (.int _), some (.int _), some (.int _), some (.int _), some (.int _), some (.int _)] k_110_74 (Nat.lt_of_lt_of_eq (zlt rfl : 6 < 8) vl_110.symm) rfl ?_
                  refine Zp.iinc (nI (_ + 1)) [some (.ref _), some (.int _), some (.int _), some (.int _), some (.int _), some (.int _), some (.int _), some (.int _)] k_110_76 rfl (nI_1 _) (Nat.lt_of_lt_of_eq (zlt rfl : 4 < 8) vl_110.symm) rfl ?_
                  refine Zp.iinc (nI (_ + 1)) [some (.ref _), some (.int _), some (.int _), some (.int _), some (.int _), some (.int _), some (.int _), some (.int _)] k_110_79 rfl (nI_1 _) (Nat.lt_of_lt_of_eq (zlt rfl : 7 < 8) vl_110.symm) rfl ?_
                  refine Zp.goto k_110_82 ?_
                  first | (rw [if_neg (fun z => by have := hus.mpr z; omega)] at ih1; exact ih1 I2 f2) | (rw [if_pos (hus.mp (by omega)), if_pos c_60] at ih1; exact ih1 I2 f2) | (rw [if_pos (hus.mp (by omega)), if_neg c_60] at ih1; exact ih1 I2 f2)
            refine Zp.iload k_110_40 rfl ?_
            refine Zp.bipush (nI 100) k_110_42 (by decide) ?_
            refine Zp.icmp_geN k_110_44 (by omega) (by omega) (fun c_44 => absurd c_44 (by omega)) (fun c_44 => ?_)
            refine Zp.aload_n k_110_47 rfl ?_
            refine Zp.iload_n k_110_48 rfl ?_
            refine Zp.iload_n k_110_49 rfl ?_
            refine Zp.iload k_110_50 rfl ?_
            refine Zp.callv3I v_111 k_110_52 m_0 (Nat.le_of_ble_eq_true rfl) (Nat.le_of_ble_eq_true rfl) (c_wouldBe (pc.try_ f1) ho ha hb0 (by omega) (fun h I2 f2 => ⟨_, rfl, tl I2 1 (by decide) ⟨fun _ => sb.mpr h, fun _ => rfl⟩ (fun q hq => (f2 q hq).trans (f1 q hq))⟩) (fun h I2 f2 => ⟨_, rfl, tl I2 0 (by decide) ⟨fun z => absurd z (by decide), fun z => absurd (sb.mp z) h⟩ (fun q hq => (f2 q hq).trans (f1 q hq))⟩))
            
        
        refine Zm.go [some (.ref _), some (.int _), some (.int _), some (.int _), none, none, none, none] vl_110 rfl ?_
        refine Zp.aload_n k_110_0 rfl ?_
        refine Zp.getR k_110_1 rfl (zlt rfl) m_0 r_0_0 ?_
        refine Zp.getR k_110_4 rfl (zlt rfl) m_1 r_1_0 ?_
        refine Zp.iload_n k_110_7 rfl ?_
        refine Zp.iload_n k_110_8 rfl ?_
        refine Zp.callv2I v_57 k_110_9 m_2 (Nat.le_of_ble_eq_true rfl) (Nat.le_of_ble_eq_true rfl) (c_areTwo sa_2 hp so ⟨_, rfl, ?_⟩)
        refine Zp.if_eqB k_110_12 (fun c_12 => absurd c_12 (by omega)) (fun c_12 => ?_)
        refine Zp.iload_n k_110_15 rfl ?_
        refine Zp.iconst (nI 0) k_110_16 (by decide) ?_
        refine Zp.iconst (nI 2) k_110_17 (by decide) ?_
        refine Zp.calls3I vs_129 k_110_18 (Nat.le_of_ble_eq_true rfl) (Nat.le_of_ble_eq_true rfl) (c_isWithin (nI_toInt (by omega)) (nI_toInt (by omega)) (nI_toInt (by omega)) ⟨_, rfl, ?_⟩)
        refine Zp.if_neB k_110_21 (fun c_21 => ?_) (fun c_21 => absurd c_21 (by omega))
        refine Zp.iconst (nI 0) k_110_26 (by decide) ?_
        refine Zp.istore [some (.ref _), some (.int _), some (.int _), some (.int _), some (.int _), none, none, none] k_110_27 (Nat.lt_of_lt_of_eq (zlt rfl : 4 < 8) vl_110.symm) rfl ?_
        refine Zp.bipush (-4) k_110_29 (by decide) ?_
        refine Zp.istore [some (.ref _), some (.int _), some (.int _), some (.int _), some (.int _), some (.int _), none, none] k_110_31 (Nat.lt_of_lt_of_eq (zlt rfl : 5 < 8) vl_110.symm) rfl ?_
        refine Zp.bipush (-4) k_110_33 (by decide) ?_
        refine Zp.istore [some (.ref _), some (.int _), some (.int _), some (.int _), some (.int _), some (.int _), some (.int _), none] k_110_35 (Nat.lt_of_lt_of_eq (zlt rfl : 6 < 8) vl_110.symm) rfl ?_
        refine Zp.iconst (nI 0) k_110_37 (by decide) ?_
        refine Zp.istore [some (.ref _), some (.int _), some (.int _), some (.int _), some (.int _), some (.int _), some (.int _), some (.int _)] k_110_38 (Nat.lt_of_lt_of_eq (zlt rfl : 7 < 8) vl_110.symm) rfl ?_
        exact loop 100 0 I (by omega) (fun _ _ => rfl)
      · obtain ⟨m3, ⟨mp, xp⟩, m4, ms1, ms2, ms3, mk0, mk1, mi0, mi1, mt, mb, mf, mr, mh⟩ := id pm
        have loop : ∀ k i (I1 : zI), i + k = 100 → (∀ q, q ≠ 95 → I1 q = I q) → Zp G 211 37 [some (.ref 93), some (.int (nI a)), some (.int (nI b)), some (.int (nI c)), some (.int (nI (fiF (kS (aK A)) (kE (aK A)) a b i).1)), some (.int (fiF (kS (aK A)) (kE (aK A)) a b i).2.1), some (.int (fiF (kS (aK A)) (kE (aK A)) a b i).2.2), some (.int (nI i))] [] I1 L Q := by
          intro k
          induction k with
          | zero =>
            intro i I1 hi f1
            have e : i = 100 := by omega
            subst e
            have hq1 := hq I1 L (pm.at f1) (fun q h => f1 q (by omega))
            refine Zp.iload k_211_37 rfl ?_
            refine Zp.bipush (nI 100) k_211_39 (by decide) ?_
            refine Zp.icmp_geN k_211_41 (by omega) (by omega) (fun c_41 => ?_) (fun c_41 => absurd c_41 (by omega))
            refine Zp.iload_n k_211_90 rfl ?_
            refine Zp.if_neN k_211_91 (by omega) (fun c_91 => ?_) (fun c_91 => ?_)
            · refine Zp.iload_n k_211_99 rfl ?_
              refine Zp.iconst (nI 1) k_211_100 (by decide) ?_
              refine Zp.icmp_neN k_211_101 (by omega) (by omega) (fun c_101 => ?_) (fun c_101 => ?_)
              · refine Zp.iload k_211_109 rfl ?_
                refine Zp.iret _ k_211_111 vr_211 rfl ?_
                first | (rw [if_pos c_91] at hq1; exact hq1) | (rw [if_neg c_91, if_pos c_101] at hq1; exact hq1) | (rw [if_neg c_91, if_neg c_101] at hq1; exact hq1)
              · refine Zp.iload k_211_104 rfl ?_
                refine Zp.goto k_211_106 ?_
                refine Zp.iret _ k_211_111 vr_211 rfl ?_
                first | (rw [if_pos c_91] at hq1; exact hq1) | (rw [if_neg c_91, if_pos c_101] at hq1; exact hq1) | (rw [if_neg c_91, if_neg c_101] at hq1; exact hq1)
            · refine Zp.iload k_211_94 rfl ?_
              refine Zp.goto k_211_96 ?_
              refine Zp.iret _ k_211_111 vr_211 rfl ?_
              first | (rw [if_pos c_91] at hq1; exact hq1) | (rw [if_neg c_91, if_pos c_101] at hq1; exact hq1) | (rw [if_neg c_91, if_neg c_101] at hq1; exact hq1)
          | succ k ih =>
            intro i I1 hi f1
            have ml := fiF_le (kS (aK A)) (kE (aK A)) a b i
            have sb := soB_ok (kS (aK A)) (kE (aK A)) a b i
            have ih1 := fun I2 => ih (i + 1) I2 (by omega)
            rw [show fiF (kS (aK A)) (kE (aK A)) a b (i + 1) = if soB (kS (aK A)) (kE (aK A)) a b i = true then ((fiF (kS (aK A)) (kE (aK A)) a b i).1 + 1, if (fiF (kS (aK A)) (kE (aK A)) a b i).1 = 0 then nI i else (fiF (kS (aK A)) (kE (aK A)) a b i).2.1, nI i) else fiF (kS (aK A)) (kE (aK A)) a b i from rfl] at ih1
            have tl : ∀ (I2 : zI) (u : Nat), u ≤ 1 → (u = 1 ↔ soB (kS (aK A)) (kE (aK A)) a b i = true) → (∀ q, q ≠ 95 → I2 q = I q) → Zp G 211 60 [some (.ref 93), some (.int (nI a)), some (.int (nI b)), some (.int (nI c)), some (.int (nI (fiF (kS (aK A)) (kE (aK A)) a b i).1)), some (.int (fiF (kS (aK A)) (kE (aK A)) a b i).2.1), some (.int (fiF (kS (aK A)) (kE (aK A)) a b i).2.2), some (.int (nI i))] [.int (nI u)] I2 L Q := by
              intro I2 u hu hus f2
              refine Zp.if_eqN k_211_60 (by omega) (fun c_60 => ?_) (fun c_60 => ?_)
              · refine Zp.iinc (nI (_ + 1)) [some (.ref _), some (.int _), some (.int _), some (.int _), some (.int _), some (.int _), some (.int _), some (.int _)] k_211_84 rfl (nI_1 _) (Nat.lt_of_lt_of_eq (zlt rfl : 7 < 8) vl_211.symm) rfl ?_
                refine Zp.goto k_211_87 ?_
                first | (rw [if_neg (fun z => by have := hus.mpr z; omega)] at ih1; exact ih1 I2 f2) | (rw [if_pos (hus.mp (by omega)), if_pos c_65] at ih1; exact ih1 I2 f2) | (rw [if_pos (hus.mp (by omega)), if_neg c_65] at ih1; exact ih1 I2 f2)
              · refine Zp.iload k_211_63 rfl ?_
                refine Zp.if_neN k_211_65 (by omega) (fun c_65 => ?_) (fun c_65 => ?_)
                · refine Zp.iload k_211_73 rfl ?_
                  refine Zp.istore [some (.ref _), some (.int _), some (.int _), some (.int _), some (.int _), some (.int _), some (.int _), some (.int _)] k_211_75 (Nat.lt_of_lt_of_eq (zlt rfl : 5 < 8) vl_211.symm) rfl ?_
                  refine Zp.iload k_211_77 rfl ?_
                  refine Zp.istore [some (.ref _), some (.int _), some (.int _), some (.int _), some (.int _), some (.int _), some (.int _), some (.int _)] k_211_79 (Nat.lt_of_lt_of_eq (zlt rfl : 6 < 8) vl_211.symm) rfl ?_
                  refine Zp.iinc (nI (_ + 1)) [some (.ref _), some (.int _), some (.int _), some (.int _), some (.int _), some (.int _), some (.int _), some (.int _)] k_211_81 rfl (nI_1 _) (Nat.lt_of_lt_of_eq (zlt rfl : 4 < 8) vl_211.symm) rfl ?_
                  refine Zp.iinc (nI (_ + 1)) [some (.ref _), some (.int _), some (.int _), some (.int _), some (.int _), some (.int _), some (.int _), some (.int _)] k_211_84 rfl (nI_1 _) (Nat.lt_of_lt_of_eq (zlt rfl : 7 < 8) vl_211.symm) rfl ?_
                  refine Zp.goto k_211_87 ?_
                  first | (rw [if_neg (fun z => by have := hus.mpr z; omega)] at ih1; exact ih1 I2 f2) | (rw [if_pos (hus.mp (by omega)), if_pos c_65] at ih1; exact ih1 I2 f2) | (rw [if_pos (hus.mp (by omega)), if_neg c_65] at ih1; exact ih1 I2 f2)
                · refine Zp.iload k_211_68 rfl ?_
                  refine Zp.goto k_211_70 ?_
                  refine Zp.istore [some (.ref _), some (.int _), some (.int _), some (.int _), some (.int _), some (.int _), some (.int _), some (.int _)] k_211_75 (Nat.lt_of_lt_of_eq (zlt rfl : 5 < 8) vl_211.symm) rfl ?_
                  refine Zp.iload k_211_77 rfl ?_
                  refine Zp.istore [some (.ref _), some (.int _), some (.int _), some (.int _), some (.int _), some (.int _), some (.int _), some (.int _)] k_211_79 (Nat.lt_of_lt_of_eq (zlt rfl : 6 < 8) vl_211.symm) rfl ?_
                  refine Zp.iinc (nI (_ + 1)) [some (.ref _), some (.int _), some (.int _), some (.int _), some (.int _), some (.int _), some (.int _), some (.int _)] k_211_81 rfl (nI_1 _) (Nat.lt_of_lt_of_eq (zlt rfl : 4 < 8) vl_211.symm) rfl ?_
                  refine Zp.iinc (nI (_ + 1)) [some (.ref _), some (.int _), some (.int _), some (.int _), some (.int _), some (.int _), some (.int _), some (.int _)] k_211_84 rfl (nI_1 _) (Nat.lt_of_lt_of_eq (zlt rfl : 7 < 8) vl_211.symm) rfl ?_
                  refine Zp.goto k_211_87 ?_
                  first | (rw [if_neg (fun z => by have := hus.mpr z; omega)] at ih1; exact ih1 I2 f2) | (rw [if_pos (hus.mp (by omega)), if_pos c_65] at ih1; exact ih1 I2 f2) | (rw [if_pos (hus.mp (by omega)), if_neg c_65] at ih1; exact ih1 I2 f2)
            refine Zp.iload k_211_37 rfl ?_
            refine Zp.bipush (nI 100) k_211_39 (by decide) ?_
            refine Zp.icmp_geN k_211_41 (by omega) (by omega) (fun c_41 => absurd c_41 (by omega)) (fun c_41 => ?_)
            refine Zp.aload_n k_211_44 rfl ?_
            refine Zp.iload_n k_211_45 rfl ?_
            refine Zp.iload_n k_211_46 rfl ?_
            refine Zp.iload k_211_47 rfl ?_
            refine Zp.bipush (nI 10) k_211_49 (by decide) ?_
            refine Zp.idivN k_211_51 (by omega) (by omega) (by omega) ?_
            refine Zp.iload k_211_52 rfl ?_
            refine Zp.bipush (nI 10) k_211_54 (by decide) ?_
            refine Zp.iremN k_211_56 (by omega) (by omega) (by omega) ?_
            refine Zp.callv4I v_210 k_211_57 m_93 (Nat.le_of_ble_eq_true rfl) (Nat.le_of_ble_eq_true rfl) (c_isSoM (pm.at f1) ho ha hb0 (by omega) (fun h I2 f2 => ⟨_, rfl, tl I2 1 (by decide) ⟨fun _ => sb.mpr h, fun _ => rfl⟩ (fun q hq => (f2 q hq).trans (f1 q hq))⟩) (fun h I2 f2 => ⟨_, rfl, tl I2 0 (by decide) ⟨fun z => absurd z (by decide), fun z => absurd (sb.mp z) h⟩ (fun q hq => (f2 q hq).trans (f1 q hq))⟩))
            
        
        refine Zm.go [some (.ref _), some (.int _), some (.int _), some (.int _), none, none, none, none] vl_211 rfl ?_
        refine Zp.aload_n k_211_0 rfl ?_
        refine Zp.iload_n k_211_1 rfl ?_
        refine Zp.iload_n k_211_2 rfl ?_
        refine Zp.callv2I v_156 k_211_3 m_93 (Nat.le_of_ble_eq_true rfl) (Nat.le_of_ble_eq_true rfl) (c_areTwoM m3 (by omega) ⟨_, rfl, ?_⟩)
        refine Zp.if_eqB k_211_6 (fun c_6 => absurd c_6 (by omega)) (fun c_6 => ?_)
        refine Zp.iload_n k_211_9 rfl ?_
        refine Zp.i2l k_211_10 ?_
        refine Zp.lconst (lN 0) k_211_11 (by decide) ?_
        refine Zp.ldc2 (lN 2) k_211_12 (by decide) ?_
        refine Zp.calls3I vs_131 k_211_15 (Nat.le_of_ble_eq_true rfl) (Nat.le_of_ble_eq_true rfl) (c_in (zi2n (by omega)) (lN_z (by decide)) (lN_z (by decide)) ⟨_, rfl, ?_⟩)
        refine Zp.if_neB k_211_18 (fun c_18 => ?_) (fun c_18 => absurd c_18 (by omega))
        refine Zp.iconst (nI 0) k_211_23 (by decide) ?_
        refine Zp.istore [some (.ref _), some (.int _), some (.int _), some (.int _), some (.int _), none, none, none] k_211_24 (Nat.lt_of_lt_of_eq (zlt rfl : 4 < 8) vl_211.symm) rfl ?_
        refine Zp.bipush (-4) k_211_26 (by decide) ?_
        refine Zp.istore [some (.ref _), some (.int _), some (.int _), some (.int _), some (.int _), some (.int _), none, none] k_211_28 (Nat.lt_of_lt_of_eq (zlt rfl : 5 < 8) vl_211.symm) rfl ?_
        refine Zp.bipush (-4) k_211_30 (by decide) ?_
        refine Zp.istore [some (.ref _), some (.int _), some (.int _), some (.int _), some (.int _), some (.int _), some (.int _), none] k_211_32 (Nat.lt_of_lt_of_eq (zlt rfl : 6 < 8) vl_211.symm) rfl ?_
        refine Zp.iconst (nI 0) k_211_34 (by decide) ?_
        refine Zp.istore [some (.ref _), some (.int _), some (.int _), some (.int _), some (.int _), some (.int _), some (.int _), some (.int _)] k_211_35 (Nat.lt_of_lt_of_eq (zlt rfl : 7 < 8) vl_211.symm) rfl ?_
        exact loop 100 0 I (by omega) (fun _ _ => rfl)
    · refine ⟨.int (-1), A, ho, fun I L Q pc hq => ?_, fun I L Q pm hq => ?_⟩
      · obtain ⟨⟨hp, lp, pp, ep⟩, hk, hi0, hi1, ht, hb, hf, hr, hh⟩ := id pc
        refine Zm.go [some (.ref _), some (.int _), some (.int _), some (.int _), none, none, none, none] vl_110 rfl ?_
        refine Zp.aload_n k_110_0 rfl ?_
        refine Zp.getR k_110_1 rfl (zlt rfl) m_0 r_0_0 ?_
        refine Zp.getR k_110_4 rfl (zlt rfl) m_1 r_1_0 ?_
        refine Zp.iload_n k_110_7 rfl ?_
        refine Zp.iload_n k_110_8 rfl ?_
        refine Zp.callv2I v_57 k_110_9 m_2 (Nat.le_of_ble_eq_true rfl) (Nat.le_of_ble_eq_true rfl) (c_areTwo sa_2 hp so ⟨_, rfl, ?_⟩)
        refine Zp.if_eqB k_110_12 (fun c_12 => absurd c_12 (by omega)) (fun c_12 => ?_)
        refine Zp.iload_n k_110_15 rfl ?_
        refine Zp.iconst (nI 0) k_110_16 (by decide) ?_
        refine Zp.iconst (nI 2) k_110_17 (by decide) ?_
        refine Zp.calls3I vs_129 k_110_18 (Nat.le_of_ble_eq_true rfl) (Nat.le_of_ble_eq_true rfl) (c_isWithin rfl (nI_toInt (by omega)) (nI_toInt (by omega)) ⟨_, rfl, ?_⟩)
        refine Zp.if_neB k_110_21 (fun c_21 => absurd c_21 (by omega)) (fun c_21 => ?_)
        refine Zp.iconst (-1) k_110_24 (by decide) ?_
        refine Zp.iret _ k_110_25 vr_110 rfl ?_
        exact hq I pc (FrC.rf I)
      · obtain ⟨m3, ⟨mp, xp⟩, m4, ms1, ms2, ms3, mk0, mk1, mi0, mi1, mt, mb, mf, mr, mh⟩ := id pm
        refine Zm.go [some (.ref _), some (.int _), some (.int _), some (.int _), none, none, none, none] vl_211 rfl ?_
        refine Zp.aload_n k_211_0 rfl ?_
        refine Zp.iload_n k_211_1 rfl ?_
        refine Zp.iload_n k_211_2 rfl ?_
        refine Zp.callv2I v_156 k_211_3 m_93 (Nat.le_of_ble_eq_true rfl) (Nat.le_of_ble_eq_true rfl) (c_areTwoM m3 (by omega) ⟨_, rfl, ?_⟩)
        refine Zp.if_eqB k_211_6 (fun c_6 => absurd c_6 (by omega)) (fun c_6 => ?_)
        refine Zp.iload_n k_211_9 rfl ?_
        refine Zp.i2l k_211_10 ?_
        refine Zp.lconst (lN 0) k_211_11 (by decide) ?_
        refine Zp.ldc2 (lN 2) k_211_12 (by decide) ?_
        refine Zp.calls3I vs_131 k_211_15 (Nat.le_of_ble_eq_true rfl) (Nat.le_of_ble_eq_true rfl) (c_in (zi2l _) (lN_z (by decide)) (lN_z (by decide)) ⟨_, rfl, ?_⟩)
        refine Zp.if_neB k_211_18 (fun c_18 => absurd c_18 (by omega)) (fun c_18 => ?_)
        refine Zp.iconst (-1) k_211_21 (by decide) ?_
        refine Zp.iret _ k_211_22 vr_211 rfl ?_
        first | exact hq I L pm (FrM.rf I) | exact hq I2 L pm2 (fun q hq => s2 q (by omega))
  · refine ⟨.int (-1), A, ho, fun I L Q pc hq => ?_, fun I L Q pm hq => ?_⟩
    · obtain ⟨⟨hp, lp, pp, ep⟩, hk, hi0, hi1, ht, hb, hf, hr, hh⟩ := id pc
      refine Zm.go [some (.ref _), some (.int _), some (.int _), some (.int _), none, none, none, none] vl_110 rfl ?_
      refine Zp.aload_n k_110_0 rfl ?_
      refine Zp.getR k_110_1 rfl (zlt rfl) m_0 r_0_0 ?_
      refine Zp.getR k_110_4 rfl (zlt rfl) m_1 r_1_0 ?_
      refine Zp.iload_n k_110_7 rfl ?_
      refine Zp.iload_n k_110_8 rfl ?_
      refine Zp.callv2I v_57 k_110_9 m_2 (Nat.le_of_ble_eq_true rfl) (Nat.le_of_ble_eq_true rfl) (c_areTwo sa_2 hp so ⟨_, rfl, ?_⟩)
      refine Zp.if_eqB k_110_12 (fun c_12 => ?_) (fun c_12 => (by first | exact absurd c_12 v | exact absurd v c_12))
      refine Zp.iconst (-1) k_110_24 (by decide) ?_
      refine Zp.iret _ k_110_25 vr_110 rfl ?_
      exact hq I pc (FrC.rf I)
    · obtain ⟨m3, ⟨mp, xp⟩, m4, ms1, ms2, ms3, mk0, mk1, mi0, mi1, mt, mb, mf, mr, mh⟩ := id pm
      refine Zm.go [some (.ref _), some (.int _), some (.int _), some (.int _), none, none, none, none] vl_211 rfl ?_
      refine Zp.aload_n k_211_0 rfl ?_
      refine Zp.iload_n k_211_1 rfl ?_
      refine Zp.iload_n k_211_2 rfl ?_
      refine Zp.callv2I v_156 k_211_3 m_93 (Nat.le_of_ble_eq_true rfl) (Nat.le_of_ble_eq_true rfl) (c_areTwoM m3 (by omega) ⟨_, rfl, ?_⟩)
      refine Zp.if_eqB k_211_6 (fun c_6 => ?_) (fun c_6 => (by first | exact absurd c_6 v | exact absurd v c_6))
      refine Zp.iconst (-1) k_211_21 (by decide) ?_
      refine Zp.iret _ k_211_22 vr_211 rfl ?_
      first | exact hq I L pm (FrM.rf I) | exact hq I2 L pm2 (fun q hq => s2 q (by omega))
end FITS3
