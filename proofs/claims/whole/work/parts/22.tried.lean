/-! SLIPS TRIED, WHAT FITS, WHO FORGAVE, DRIFT -/
/-- the soup behind the slips chosen among the first i -/
def wsG (S : zSo) (P : zSl) (ch : Nat) : Nat → zSo
  | 0 => S
  | i + 1 => if ch / 2 ^ i % 2 = 1 then woS (wsG S P ch i) P i else wsG S P ch i
theorem wsG_n (S : zSo) (P : zSl) (ch : Nat) : ∀ i, sn (wsG S P ch i) = sn S ∧ sneed (wsG S P ch i) = sneed S ∧ snoon (wsG S P ch i) = snoon S ∧ skd (wsG S P ch i) = skd S ∧ sstep (wsG S P ch i) = sstep S
  | 0 => ⟨rfl, rfl, rfl, rfl, rfl⟩
  | i + 1 => by
    have ih := wsG_n S P ch i
    unfold wsG
    split
    · exact ih
    · exact ih
theorem wsG_o {S : zSo} (ho : So S) (P : zSl) (ch : Nat) : ∀ i, So (wsG S P ch i)
  | 0 => ho
  | i + 1 => by
    unfold wsG
    split
    · exact woS_o (wsG_o ho P ch i) P i
    · exact wsG_o ho P ch i
/-- what the plan does behind the slips chosen -/
def wsD (S : zSo) (P : zSl) (U : zPl) (ch : Nat) : zSo := plG (wsG S P ch (lc P)) U.2 U.1
/-- the fewest slips found so far -/
def slF (S : zSo) (P : zSl) (U : zPl) : Nat → Option Nat
  | 0 => none
  | i + 1 => if ((nI i &&& nI (lu P)) = 0 ∧ bc2 i < ((slF S P U i).map bc2).getD 7) ∧ sneed S ≤ sdone (wsD S P U i) then some i else slF S P U i
def slV (o : Option Nat) : Int32 := match o with | none => -4 | some c => nI c
theorem slF_lt (S : zSo) (P : zSl) (U : zPl) : ∀ i c, slF S P U i = some c → c < i
  | 0, c, h => by unfold slF at h; exact absurd h (by simp)
  | i + 1, c, h => by
    have h2 : (if ((nI i &&& nI (lu P)) = 0 ∧ bc2 i < ((slF S P U i).map bc2).getD 7) ∧ sneed S ≤ sdone (wsD S P U i) then some i else slF S P U i) = some c := h
    split at h2
    · have := Option.some.inj h2; omega
    · have := slF_lt S P U i c h2; omega
theorem bc2_le (v : Nat) : bc2 v ≤ 6 := by unfold bc2; omega
theorem one_shl {c : Nat} (h : c < 7) : (nI 1 <<< (nI c &&& 31)) = nI (2 ^ c) := by
  have : ∀ c, c < 7 → (nI 1 <<< (nI c &&& 31)) = nI (2 ^ c) := by decide +kernel
  exact this c h
theorem slV_ge {o : Option Nat} (h : ∀ c, o = some c → c < 64) : (slV o = -4 ∧ o = none) ∨ ∃ c, o = some c ∧ slV o = nI c ∧ c < 64 := by
  cases o with
  | none => exact Or.inl ⟨rfl, rfl⟩
  | some c => exact Or.inr ⟨c, rfl, rfl, h c rfl⟩
section TRIED0
variable {G : zG} {A : zQs} {I : zI} {L : zJ} {Q : zP}
theorem c_bitsOfM {v : Nat} (hv : v < 64) (hq : Q (some (.int (nI (bc2 v)))) I L) : Zm G 201 [.int (nI v)] I L Q := by
  have hs : sm (fun i => v / 2 ^ i % 2) 6 = bc2 v := by simp [sm, bc2]
  have loop : ∀ k i, i + k = 6 → Zp G 201 4 [some (.int (nI v)), some (.int (nI (sm (fun i => v / 2 ^ i % 2) i))), some (.int (nI i))] [] I L Q := by
    intro k
    induction k with
    | zero =>
      intro i hi
      have e : i = 6 := by omega
      subst e
      refine Zp.iload_n k_201_4 rfl ?_
      refine Zp.bipush (nI 6) k_201_5 (by decide) ?_
      refine Zp.icmp_geN k_201_7 (by omega) (by omega) (fun c_7 => ?_) (fun c_7 => absurd c_7 (by omega))
      refine Zp.iload_n k_201_24 rfl ?_
      refine Zp.iret _ k_201_25 vr_201 rfl ?_
      rw [hs]
      exact hq
    | succ k ih =>
      intro i hi
      refine Zp.iload_n k_201_4 rfl ?_
      refine Zp.bipush (nI 6) k_201_5 (by decide) ?_
      refine Zp.icmp_geN k_201_7 (by omega) (by omega) (fun c_7 => absurd c_7 (by omega)) (fun c_7 => ?_)
      refine Zp.iload_n k_201_10 rfl ?_
      refine Zp.iload_n k_201_11 rfl ?_
      refine Zp.iload_n k_201_12 rfl ?_
      refine Zp.ishr k_201_13 ?_
      refine Zp.iconst (nI 1) k_201_14 (by decide) ?_
      refine Zp.iand k_201_15 ?_
      rw [bit_at hv (by omega)]
      refine Zp.iaddN k_201_16 ?_
      refine Zp.istore_n [some (.int _), some (.int _), some (.int _)] k_201_17 (Nat.lt_of_lt_of_eq (zlt rfl : 1 < 3) vl_201.symm) rfl ?_
      refine Zp.iinc (nI (_ + 1)) [some (.int _), some (.int _), some (.int _)] k_201_18 rfl (nI_1 _) (Nat.lt_of_lt_of_eq (zlt rfl : 2 < 3) vl_201.symm) rfl ?_
      refine Zp.goto k_201_21 ?_
      exact ih (i + 1) (by omega)
  refine Zm.go [some (.int _), none, none] vl_201 rfl ?_
  refine Zp.iconst (nI 0) k_201_0 (by decide) ?_
  refine Zp.istore_n [some (.int _), some (.int _), none] k_201_1 (Nat.lt_of_lt_of_eq (zlt rfl : 1 < 3) vl_201.symm) rfl ?_
  refine Zp.iconst (nI 0) k_201_2 (by decide) ?_
  refine Zp.istore_n [some (.int _), some (.int _), some (.int _)] k_201_3 (Nat.lt_of_lt_of_eq (zlt rfl : 2 < 3) vl_201.symm) rfl ?_
  exact loop 6 0 rfl
theorem c_suffice {ch : Nat} (pc : PicC A I) (ho : Ao A) (hc : ch < 64) (hq : ∀ I', (∀ q, q < 31 ∨ 33 < q → I' q = I q) → Q (some (.int (zbo (sneed (kS (aK A)) ≤ sdone (wsD (kS (aK A)) (kP (aK A)) (kU (aK A)) ch))))) I' L) : Zm G 105 [.ref 0, .int (nI ch)] I L Q := by
  obtain ⟨⟨so, sz, sst, lo, po, eo⟩, ok0, ok1, oi0, oi1, ot, ob, of_, or_, oh⟩ := id ho
  obtain ⟨o1, o2, o3, o4, o5, o6, o7⟩ := id so
  obtain ⟨p1, p2, p3⟩ := id lo
  obtain ⟨u1, u2⟩ := id po
  obtain ⟨e1, e2⟩ := id eo
  obtain ⟨⟨hp, lp, pp, ep⟩, hk, hi0, hi1, ht, hb, hf, hr, hh⟩ := id pc
  have loop : ∀ k i (I1 : zI), i + k = lc (kP (aK A)) → Sp I1 31 (wsG (kS (aK A)) (kP (aK A)) ch i) → (∀ q, q < 31 ∨ 33 < q → I1 q = I q) → Zp G 105 16 [some (.ref 0), some (.int (nI ch)), some (.int (nI i))] [] I1 L Q := by
    intro k
    induction k with
    | zero =>
      intro i I1 hi h1 f1
      have e : i = lc (kP (aK A)) := by omega
      subst e
      have lp1 : Lp I1 5 (kP (aK A)) := lp.fr (f1 _ (by decide)) (f1 _ (by decide)) (f1 _ (by decide)) (f1 _ (by decide))
      have pp1 : Pp I1 9 (kU (aK A)) := pp.fr (f1 _ (by decide)) (f1 _ (by decide))
      have w1 := wsG_n (kS (aK A)) (kP (aK A)) ch (lc (kP (aK A)))
      have w2 := wsG_o so (kP (aK A)) ch (lc (kP (aK A)))
      have w3 := plG_n (wsG (kS (aK A)) (kP (aK A)) ch (lc (kP (aK A)))) (kU (aK A)).2 (kU (aK A)).1
      have w4 := plG_o w2 (kU (aK A)).2 (kU (aK A)).1
      have w5 := w4.2.2.2.1
      have w6 := w4.2.1
      refine Zp.iload_n k_105_16 rfl ?_
      refine Zp.aload_n k_105_17 rfl ?_
      refine Zp.getR k_105_18 rfl (zlt rfl) m_0 r_0_0 ?_
      refine Zp.getR k_105_21 rfl (zlt rfl) m_1 r_1_1 ?_
      refine Zp.getV k_105_24 rfl (zlt rfl) m_5 lp1.1 ?_
      refine Zp.icmp_geN k_105_27 (by omega) (by omega) (fun c_27 => ?_) (fun c_27 => absurd c_27 (by omega))
      refine Zp.aload_n k_105_61 rfl ?_
      refine Zp.getR k_105_62 rfl (zlt rfl) m_0 r_0_0 ?_
      refine Zp.getR k_105_65 rfl (zlt rfl) m_1 r_1_2 ?_
      refine Zp.aload_n k_105_68 rfl ?_
      refine Zp.getR k_105_69 rfl (zlt rfl) m_0 r_0_5 ?_
      refine Zp.callv1I v_12 k_105_72 m_9 (Nat.le_of_ble_eq_true rfl) (Nat.le_of_ble_eq_true rfl) (c_stirAll pa_9 pp1 (po.n w1.1) sa_31 h1 w2 (by omega) (by omega) (fun I3 hs3 f3 => ⟨_, rfl, ?_⟩))
      refine Zp.pop k_105_75 rfl ?_
      refine Zp.aload_n k_105_76 rfl ?_
      refine Zp.getR k_105_77 rfl (zlt rfl) m_0 r_0_5 ?_
      refine Zp.getV k_105_80 rfl (zlt rfl) m_31 hs3.2.2.2.2.1 ?_
      refine Zp.aload_n k_105_83 rfl ?_
      refine Zp.getR k_105_84 rfl (zlt rfl) m_0 r_0_5 ?_
      refine Zp.getV k_105_87 rfl (zlt rfl) m_31 hs3.2.1 ?_
      refine Zp.icmp_ltN k_105_90 (by omega) (by omega) (fun c_90 => ?_) (fun c_90 => ?_)
      · refine Zp.iconst (nI 0) k_105_97 (by decide) ?_
        refine Zp.iret _ k_105_98 vr_105 rfl ?_
        have hq3 := hq I3 (fun q h => (f3 q (by omega) (by omega)).trans (f1 q h))
        unfold wsD at hq3
        first | exact zq1 hq3 (by omega) | exact zq0 hq3 (by omega)
      · refine Zp.iconst (nI 1) k_105_93 (by decide) ?_
        refine Zp.goto k_105_94 ?_
        refine Zp.iret _ k_105_98 vr_105 rfl ?_
        have hq3 := hq I3 (fun q h => (f3 q (by omega) (by omega)).trans (f1 q h))
        unfold wsD at hq3
        first | exact zq1 hq3 (by omega) | exact zq0 hq3 (by omega)
    | succ k ih =>
      intro i I1 hi h1 f1
      have lp1 : Lp I1 5 (kP (aK A)) := lp.fr (f1 _ (by decide)) (f1 _ (by decide)) (f1 _ (by decide)) (f1 _ (by decide))
      have w1 := wsG_n (kS (aK A)) (kP (aK A)) ch i
      have w2 := wsG_o so (kP (aK A)) ch i
      have ih1 := fun I2 => ih (i + 1) I2 (by omega)
      rw [show wsG (kS (aK A)) (kP (aK A)) ch (i + 1) = if ch / 2 ^ i % 2 = 1 then woS (wsG (kS (aK A)) (kP (aK A)) ch i) (kP (aK A)) i else wsG (kS (aK A)) (kP (aK A)) ch i from rfl] at ih1
      refine Zp.iload_n k_105_16 rfl ?_
      refine Zp.aload_n k_105_17 rfl ?_
      refine Zp.getR k_105_18 rfl (zlt rfl) m_0 r_0_0 ?_
      refine Zp.getR k_105_21 rfl (zlt rfl) m_1 r_1_1 ?_
      refine Zp.getV k_105_24 rfl (zlt rfl) m_5 lp1.1 ?_
      refine Zp.icmp_geN k_105_27 (by omega) (by omega) (fun c_27 => absurd c_27 (by omega)) (fun c_27 => ?_)
      refine Zp.iload_n k_105_30 rfl ?_
      refine Zp.iload_n k_105_31 rfl ?_
      refine Zp.ishr k_105_32 ?_
      refine Zp.iconst (nI 1) k_105_33 (by decide) ?_
      refine Zp.iand k_105_34 ?_
      rw [bit_at hc (by omega)]
      refine Zp.iconst (nI 1) k_105_35 (by decide) ?_
      refine Zp.icmp_neN k_105_36 (by omega) (by omega) (fun c_36 => ?_) (fun c_36 => ?_)
      · refine Zp.iinc (nI (_ + 1)) [some (.ref _), some (.int _), some (.int _)] k_105_55 rfl (nI_1 _) (Nat.lt_of_lt_of_eq (zlt rfl : 2 < 3) vl_105.symm) rfl ?_
        refine Zp.goto k_105_58 ?_
        first | (rw [if_neg c_36] at ih1; exact ih1 I1 h1 f1) | (rw [if_pos c_36] at ih1; exact ih1 I2 hs2 (fun q h => (f2 q (by omega)).trans (f1 q h)))
      · refine Zp.aload_n k_105_39 rfl ?_
        refine Zp.getR k_105_40 rfl (zlt rfl) m_0 r_0_0 ?_
        refine Zp.getR k_105_43 rfl (zlt rfl) m_1 r_1_1 ?_
        refine Zp.aload_n k_105_46 rfl ?_
        refine Zp.getR k_105_47 rfl (zlt rfl) m_0 r_0_5 ?_
        refine Zp.iload_n k_105_50 rfl ?_
        refine Zp.callv2I v_53 k_105_51 m_5 (Nat.le_of_ble_eq_true rfl) (Nat.le_of_ble_eq_true rfl) (c_worsen (n := sn (kS (aK A))) la_5 lp1 lo o1 sa_31 h1 w2 (by omega) (fun I2 hs2 f2 => ⟨_, rfl, ?_⟩))
        refine Zp.pop k_105_54 rfl ?_
        refine Zp.iinc (nI (_ + 1)) [some (.ref _), some (.int _), some (.int _)] k_105_55 rfl (nI_1 _) (Nat.lt_of_lt_of_eq (zlt rfl : 2 < 3) vl_105.symm) rfl ?_
        refine Zp.goto k_105_58 ?_
        first | (rw [if_neg c_36] at ih1; exact ih1 I1 h1 f1) | (rw [if_pos c_36] at ih1; exact ih1 I2 hs2 (fun q h => (f2 q (by omega)).trans (f1 q h)))
  refine Zm.go [some (.ref _), some (.int _), none] vl_105 rfl ?_
  refine Zp.aload_n k_105_0 rfl ?_
  refine Zp.getR k_105_1 rfl (zlt rfl) m_0 r_0_5 ?_
  refine Zp.aload_n k_105_4 rfl ?_
  refine Zp.getR k_105_5 rfl (zlt rfl) m_0 r_0_0 ?_
  refine Zp.getR k_105_8 rfl (zlt rfl) m_1 r_1_0 ?_
  refine Zp.callv1V v_55 k_105_11 m_31 (Nat.le_of_ble_eq_true rfl) (Nat.le_of_ble_eq_true rfl) (c_Soup_copyFrom sa_31 sa_2 (by omega) hp so (fun I2 hs2 f2 => ⟨rfl, ?_⟩))
  refine Zp.iconst (nI 0) k_105_14 (by decide) ?_
  refine Zp.istore_n [some (.ref _), some (.int _), some (.int _)] k_105_15 (Nat.lt_of_lt_of_eq (zlt rfl : 2 < 3) vl_105.symm) rfl ?_
  exact loop (lc (kP (aK A))) 0 I2 (by omega) hs2 (fun q h => f2 q (by omega) (by omega) (by omega))
theorem c_fewest (pc : PicC A I) (ho : Ao A) (hq : ∀ I', (∀ q, q < 31 ∨ 33 < q → I' q = I q) → Q (some (.int (slV (slF (kS (aK A)) (kP (aK A)) (kU (aK A)) (2 ^ lc (kP (aK A))))))) I' L) : Zm G 104 [.ref 0] I L Q := by
  obtain ⟨⟨so, sz, sst, lo, po, eo⟩, ok0, ok1, oi0, oi1, ot, ob, of_, or_, oh⟩ := id ho
  obtain ⟨o1, o2, o3, o4, o5, o6, o7⟩ := id so
  obtain ⟨p1, p2, p3⟩ := id lo
  obtain ⟨u1, u2⟩ := id po
  obtain ⟨e1, e2⟩ := id eo
  have h64 : 2 ^ lc (kP (aK A)) ≤ 64 := Nat.pow_le_pow_right (n := 2) (by decide) p1
  have loop : ∀ k i (I1 : zI) (u4 : Int32), i + k = 2 ^ lc (kP (aK A)) → (∀ q, q < 31 ∨ 33 < q → I1 q = I q) → Zp G 104 8 [some (.ref 0), some (.int (slV (slF (kS (aK A)) (kP (aK A)) (kU (aK A)) i))), some (.int (nI (((slF (kS (aK A)) (kP (aK A)) (kU (aK A)) i).map bc2).getD 7))), some (.int (nI i)), none] [] I1 L Q := by
    intro k
    induction k with
    | zero =>
      intro i I1 u4 hi f1
      have e : i = 2 ^ lc (kP (aK A)) := by omega
      subst e
      have pc1 := pc.try_ f1
      obtain ⟨⟨hp, lp, pp, ep⟩, hk, hi0, hi1, ht, hb, hf, hr, hh⟩ := id pc1
      refine Zp.iload_n k_104_8 rfl ?_
      refine Zp.iconst (nI 1) k_104_9 (by decide) ?_
      refine Zp.aload_n k_104_10 rfl ?_
      refine Zp.getR k_104_11 rfl (zlt rfl) m_0 r_0_0 ?_
      refine Zp.getR k_104_14 rfl (zlt rfl) m_1 r_1_1 ?_
      refine Zp.getV k_104_17 rfl (zlt rfl) m_5 lp.1 ?_
      refine Zp.ishl k_104_20 ?_
      rw [one_shl (by omega)]
      refine Zp.icmp_geN k_104_21 (by omega) (by omega) (fun c_21 => ?_) (fun c_21 => absurd c_21 (by omega))
      refine Zp.iload_n k_104_80 rfl ?_
      refine Zp.iret _ k_104_81 vr_104 rfl ?_
      exact hq I1 f1
    | succ k ih =>
      intro i I1 u4 hi f1
      have pc1 := pc.try_ f1
      obtain ⟨⟨hp, lp, pp, ep⟩, hk, hi0, hi1, ht, hb, hf, hr, hh⟩ := id pc1
      have lcN : ∀ (v1 v2 v3 v4 v5 : Value) (j : Nat) (u : Value), ([some v1, some v2, some v3, some v4, none] : List (Option Value))[j]? = some (some u) → ([some v1, some v2, some v3, some v4, some v5] : List (Option Value))[j]? = some (some u) := by
        intro v1 v2 v3 v4 v5 j u hj
        match j, hj with
        | 0, hj => exact hj
        | 1, hj => exact hj
        | 2, hj => exact hj
        | 3, hj => exact hj
        | 4, hj => exact absurd hj (by simp)
        | _ + 5, hj => exact absurd hj (by simp)
      have b1 := bc2_le i
      have b2 : ((slF (kS (aK A)) (kP (aK A)) (kU (aK A)) i).map bc2).getD 7 ≤ 7 := by
        cases slF (kS (aK A)) (kP (aK A)) (kU (aK A)) i with
        | none => exact Nat.le_refl 7
        | some c => exact Nat.le_succ_of_le (bc2_le c)
      have ih1 := fun I2 => ih (i + 1) I2 0 (by omega)
      have hm : slF (kS (aK A)) (kP (aK A)) (kU (aK A)) (i + 1) = if ((nI i &&& nI (lu (kP (aK A)))) = 0 ∧ bc2 i < ((slF (kS (aK A)) (kP (aK A)) (kU (aK A)) i).map bc2).getD 7) ∧ sneed (kS (aK A)) ≤ sdone (wsD (kS (aK A)) (kP (aK A)) (kU (aK A)) i) then some i else slF (kS (aK A)) (kP (aK A)) (kU (aK A)) i := rfl
      rw [hm] at ih1
      have jn : ∀ (I2 : zI) (v1 v2 v4 : Int32), Zp G 104 8 [some (.ref 0), some (.int v1), some (.int v2), some (.int (nI (i + 1))), none] [] I2 L Q → Zp G 104 74 [some (.ref 0), some (.int v1), some (.int v2), some (.int (nI i)), some (.int v4)] [] I2 L Q := by
        intro I2 v1 v2 v4 k8
        refine Zp.iinc (nI (_ + 1)) [some (.ref _), some (.int _), some (.int _), some (.int _), some (.int _)] k_104_74 rfl (nI_1 _) (Nat.lt_of_lt_of_eq (zlt rfl : 3 < 5) vl_104.symm) rfl ?_
        refine Zp.goto k_104_77 ?_
        exact Zp.locs _ (lcN _ _ _ _ _) k8
      refine Zp.iload_n k_104_8 rfl ?_
      refine Zp.iconst (nI 1) k_104_9 (by decide) ?_
      refine Zp.aload_n k_104_10 rfl ?_
      refine Zp.getR k_104_11 rfl (zlt rfl) m_0 r_0_0 ?_
      refine Zp.getR k_104_14 rfl (zlt rfl) m_1 r_1_1 ?_
      refine Zp.getV k_104_17 rfl (zlt rfl) m_5 lp.1 ?_
      refine Zp.ishl k_104_20 ?_
      rw [one_shl (by omega)]
      refine Zp.icmp_geN k_104_21 (by omega) (by omega) (fun c_21 => absurd c_21 (by omega)) (fun c_21 => ?_)
      refine Zp.iload_n k_104_24 rfl ?_
      refine Zp.aload_n k_104_25 rfl ?_
      refine Zp.getR k_104_26 rfl (zlt rfl) m_0 r_0_0 ?_
      refine Zp.getR k_104_29 rfl (zlt rfl) m_1 r_1_1 ?_
      refine Zp.getV k_104_32 rfl (zlt rfl) m_5 lp.2.1 ?_
      refine Zp.iand k_104_35 ?_
      refine Zp.if_ne k_104_36 (fun c_36 => ?_) (fun c_36 => ?_)
      · refine Zp.iconst (nI 0) k_104_43 (by decide) ?_
        refine Zp.istore [some (.ref _), some (.int _), some (.int _), some (.int _), some (.int _)] k_104_44 (Nat.lt_of_lt_of_eq (zlt rfl : 4 < 5) vl_104.symm) rfl ?_
        refine Zp.iload k_104_46 rfl ?_
        refine Zp.if_eqN k_104_48 (by omega) (fun _ => ?_) (fun c => absurd c (by decide))
        first | (rw [if_neg (fun z => absurd z.1.1 (by first | exact c_36 | omega))] at ih1; exact jn I1 _ _ _ (ih1 I1 f1)) | (rw [if_neg (fun z => absurd z.1.2 (by omega))] at ih1; exact jn I1 _ _ _ (ih1 I1 f1)) | (rw [if_neg (fun z => c_64 z.2)] at ih1; exact jn I2 _ _ _ (ih1 I2 (fun q h => (f2 q h).trans (f1 q h)))) | (rw [if_pos ⟨⟨by first | assumption | omega, by omega⟩, c_64⟩] at ih1; exact jn I2 _ _ _ (ih1 I2 (fun q h => (f2 q h).trans (f1 q h))))
      · refine Zp.iconst (nI 1) k_104_39 (by decide) ?_
        refine Zp.goto k_104_40 ?_
        refine Zp.istore [some (.ref _), some (.int _), some (.int _), some (.int _), some (.int _)] k_104_44 (Nat.lt_of_lt_of_eq (zlt rfl : 4 < 5) vl_104.symm) rfl ?_
        refine Zp.iload k_104_46 rfl ?_
        refine Zp.if_eqN k_104_48 (by omega) (fun c => absurd c (by decide)) (fun _ => ?_)
        refine Zp.iload_n k_104_51 rfl ?_
        refine Zp.calls1I vs_230 k_104_52 (Nat.le_of_ble_eq_true rfl) (Nat.le_of_ble_eq_true rfl) (c_bitCount (by omega) ⟨_, rfl, ?_⟩)
        refine Zp.iload_n k_104_55 rfl ?_
        refine Zp.icmp_geN k_104_56 (by omega) (by omega) (fun c_56 => ?_) (fun c_56 => ?_)
        · first | (rw [if_neg (fun z => absurd z.1.1 (by first | exact c_36 | omega))] at ih1; exact jn I1 _ _ _ (ih1 I1 f1)) | (rw [if_neg (fun z => absurd z.1.2 (by omega))] at ih1; exact jn I1 _ _ _ (ih1 I1 f1)) | (rw [if_neg (fun z => c_64 z.2)] at ih1; exact jn I2 _ _ _ (ih1 I2 (fun q h => (f2 q h).trans (f1 q h)))) | (rw [if_pos ⟨⟨by first | assumption | omega, by omega⟩, c_64⟩] at ih1; exact jn I2 _ _ _ (ih1 I2 (fun q h => (f2 q h).trans (f1 q h))))
        · refine Zp.aload_n k_104_59 rfl ?_
          refine Zp.iload_n k_104_60 rfl ?_
          refine Zp.callv1I v_105 k_104_61 m_0 (Nat.le_of_ble_eq_true rfl) (Nat.le_of_ble_eq_true rfl) (c_suffice pc1 ho (by omega) (fun I2 f2 => ⟨_, rfl, ?_⟩))
          refine Zp.if_eqB k_104_64 (fun c_64 => ?_) (fun c_64 => ?_)
          · first | (rw [if_neg (fun z => absurd z.1.1 (by first | exact c_36 | omega))] at ih1; exact jn I1 _ _ _ (ih1 I1 f1)) | (rw [if_neg (fun z => absurd z.1.2 (by omega))] at ih1; exact jn I1 _ _ _ (ih1 I1 f1)) | (rw [if_neg (fun z => c_64 z.2)] at ih1; exact jn I2 _ _ _ (ih1 I2 (fun q h => (f2 q h).trans (f1 q h)))) | (rw [if_pos ⟨⟨by first | assumption | omega, by omega⟩, c_64⟩] at ih1; exact jn I2 _ _ _ (ih1 I2 (fun q h => (f2 q h).trans (f1 q h))))
          · refine Zp.iload_n k_104_67 rfl ?_
            refine Zp.istore_n [some (.ref _), some (.int _), some (.int _), some (.int _), some (.int _)] k_104_68 (Nat.lt_of_lt_of_eq (zlt rfl : 1 < 5) vl_104.symm) rfl ?_
            refine Zp.iload_n k_104_69 rfl ?_
            refine Zp.calls1I vs_230 k_104_70 (Nat.le_of_ble_eq_true rfl) (Nat.le_of_ble_eq_true rfl) (c_bitCount (by omega) ⟨_, rfl, ?_⟩)
            refine Zp.istore_n [some (.ref _), some (.int _), some (.int _), some (.int _), some (.int _)] k_104_73 (Nat.lt_of_lt_of_eq (zlt rfl : 2 < 5) vl_104.symm) rfl ?_
            first | (rw [if_neg (fun z => absurd z.1.1 (by first | exact c_36 | omega))] at ih1; exact jn I1 _ _ _ (ih1 I1 f1)) | (rw [if_neg (fun z => absurd z.1.2 (by omega))] at ih1; exact jn I1 _ _ _ (ih1 I1 f1)) | (rw [if_neg (fun z => c_64 z.2)] at ih1; exact jn I2 _ _ _ (ih1 I2 (fun q h => (f2 q h).trans (f1 q h)))) | (rw [if_pos ⟨⟨by first | assumption | omega, by omega⟩, c_64⟩] at ih1; exact jn I2 _ _ _ (ih1 I2 (fun q h => (f2 q h).trans (f1 q h))))
  refine Zm.go [some (.ref _), none, none, none, none] vl_104 rfl ?_
  refine Zp.bipush (-4) k_104_0 (by decide) ?_
  refine Zp.istore_n [some (.ref _), some (.int _), none, none, none] k_104_2 (Nat.lt_of_lt_of_eq (zlt rfl : 1 < 5) vl_104.symm) rfl ?_
  refine Zp.bipush (nI 7) k_104_3 (by decide) ?_
  refine Zp.istore_n [some (.ref _), some (.int _), some (.int _), none, none] k_104_5 (Nat.lt_of_lt_of_eq (zlt rfl : 2 < 5) vl_104.symm) rfl ?_
  refine Zp.iconst (nI 0) k_104_6 (by decide) ?_
  refine Zp.istore_n [some (.ref _), some (.int _), some (.int _), some (.int _), none] k_104_7 (Nat.lt_of_lt_of_eq (zlt rfl : 3 < 5) vl_104.symm) rfl ?_
  exact loop (2 ^ lc (kP (aK A))) 0 I 0 (by omega) (fun _ _ => rfl)
end TRIED0
