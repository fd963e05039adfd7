/-! SLIPS USED, FORGIVING, PLANS TRIED, STEPS AHEAD -/
theorem Lp.used {I : zI} {h v : Nat} {P : zSl} {x : Int32} (lp : Lp I h P) (hx : x = nI v) : Lp (zpu I h 1 x) h (lc P, v, P.2.2) := by
  obtain ⟨p0, p1, p2, p3, p4⟩ := lp
  have e1 : zpu I h 1 x (h + 1) = I (h + 1) := zpu_q _ _ _ (by omega)
  have e2 : zpu I h 1 x (h + 2) = I (h + 2) := zpu_q _ _ _ (by omega)
  have e3 : zpu I h 1 x (h + 3) = I (h + 3) := zpu_q _ _ _ (by omega)
  exact ⟨by rw [zpu_k _ _ _ (by decide)]; exact p0, by rw [zpu_s]; exact hx, by rw [e1]; exact p2, by rw [e2]; exact p3, by rw [e3]; exact p4⟩
theorem woS_o {S : zSo} (ho : So S) (P : zSl) (i : Nat) : So (woS S P i) := ho.uh (woV_le S P i)
/-- two stir i times, so far as they may -/
def aG (S : zSo) (a b : Nat) : Nat → zSo
  | 0 => S
  | i + 1 => if canS (aG S a b i) then stS (aG S a b i) a b else aG S a b i
theorem aG_n (S : zSo) (a b : Nat) : ∀ i, sn (aG S a b i) = sn S ∧ sneed (aG S a b i) = sneed S ∧ snoon (aG S a b i) = snoon S ∧ skd (aG S a b i) = skd S ∧ sstep (aG S a b i) ≤ sstep S + i
  | 0 => ⟨rfl, rfl, rfl, rfl, Nat.le_refl _⟩
  | i + 1 => by
    obtain ⟨h1, h2, h3, h4, h5⟩ := aG_n S a b i
    unfold aG
    split
    · exact ⟨(stS_n _ _ _).trans h1, (stS_need _ _ _).trans h2, (stS_noon _ _ _).trans h3, (stS_kd _ _ _).trans h4, by rw [stS_step]; omega⟩
    · exact ⟨h1, h2, h3, h4, by omega⟩
theorem aG_o {S : zSo} (ho : So S) (a b : Nat) : ∀ i, So (aG S a b i)
  | 0 => ho
  | i + 1 => by
    unfold aG
    split
    · exact (aG_o ho a b i).st _ _
    · exact aG_o ho a b i
theorem aG_stop {S : zSo} {a b i : Nat} (h : ¬ canS (aG S a b i)) : ∀ k, aG S a b (i + k) = aG S a b i
  | 0 => rfl
  | k + 1 => by
    have ih := aG_stop h k
    show (if canS (aG S a b (i + k)) then _ else aG S a b (i + k)) = _
    rw [ih, if_neg h]
theorem PicC.try_ {A : zQs} {I I' : zI} (h : PicC A I) (e : ∀ q, q < 31 ∨ 33 < q → I' q = I q) : PicC A I' := h.fr fun q hq => e q (by omega)
theorem fgS_z {S : zSo} (h : Sz S) (a : Nat) : Sz (fgS S a) := fun c d hc hd hh => by
  show (if _ then 0 else sht S (c * 5 + d)) = 0
  split
  · rfl
  · exact h c d hc hd hh
theorem fgS_o {S : zSo} (h : So S) (a : Nat) : So (fgS S a) := h.uht fun j => by
  have := h.2.2.2.2.2.2 j
  split <;> omega
theorem Mp.uht0 {f : Nat → Int32} {S : zSo} (h : Mp f S) (a : Nat) : Mp f (sUht S (fun j => if a * 5 ≤ j ∧ j < a * 5 + 0 then 0 else sht S j)) := by
  rw [show (fun j => if a * 5 ≤ j ∧ j < a * 5 + 0 then 0 else sht S j) = sht S from funext fun j => if_neg (by omega)]
  exact h
section ASKED0
variable {G : zG} {I : zI} {L : zJ} {Q : zP} {S : zSo} {P : zSl}
theorem c_flagNM {n : Nat} (hn : n ≤ 1) (hq : Q (some (.int (nI n))) I L) : Zm G 132 [.int (nI n)] I L Q := by
  refine Zm.go [some (.int _)] vl_132 rfl ?_
  refine Zp.iload_n k_132_0 rfl ?_
  refine Zp.if_eqN k_132_1 (by omega) (fun c_1 => ?_) (fun c_1 => ?_)
  · refine Zp.iconst (nI 0) k_132_8 (by decide) ?_
    refine Zp.iret _ k_132_9 vr_132 rfl ?_
    exact zqN hq (by omega)
  · refine Zp.iconst (nI 1) k_132_4 (by decide) ?_
    refine Zp.goto k_132_5 ?_
    refine Zp.iret _ k_132_9 vr_132 rfl ?_
    exact zqN hq (by omega)
theorem c_usesM {i u : Nat} (mq : Mp (I 95) S) (so : So S) (lo : Lo (sn S) P) (hi : i < lc P) (n1 : I 97 i = nI (l1 P i)) (n2 : I 98 i = nI (l2 P i)) (n3 : I 99 i = nI (l3 P i)) (hu : I 95 35 = nI u) (hu6 : u < 64)
    (hq : ∀ I', Mp (I' 95) (woS S P i) → I' 95 35 = nI (bOr u i) → (∀ q, q ≠ 95 → I' q = I q) → (∀ j, 36 ≤ j → I' 95 j = I 95 j) → Q none I' L) : Zm G 179 [.ref 93, .int (nI i)] I L Q := by
  have o1 := so.1
  have p1 := lo.1
  obtain ⟨i1, i2, i3, i4, i5⟩ := lo.2.2 i hi
  have hj := so.2.2.2.2.2.2 (l1 P i * 5 + l2 P i)
  refine Zm.go [some (.ref _), some (.int _)] vl_179 rfl ?_
  refine Zp.aload_n k_179_0 rfl ?_
  refine Zp.aload_n k_179_1 rfl ?_
  refine Zp.getR k_179_2 rfl (zlt rfl) m_93 r_93_5 ?_
  refine Zp.iload_n k_179_5 rfl ?_
  refine Zp.iald _ k_179_6 m_97 rfl (by omega) (zlt rfl) n1 ?_
  refine Zp.aload_n k_179_7 rfl ?_
  refine Zp.getR k_179_8 rfl (zlt rfl) m_93 r_93_6 ?_
  refine Zp.iload_n k_179_11 rfl ?_
  refine Zp.iald _ k_179_12 m_98 rfl (by omega) (zlt rfl) n2 ?_
  refine Zp.aload_n k_179_13 rfl ?_
  refine Zp.aload_n k_179_14 rfl ?_
  refine Zp.getR k_179_15 rfl (zlt rfl) m_93 r_93_5 ?_
  refine Zp.iload_n k_179_18 rfl ?_
  refine Zp.iald _ k_179_19 m_97 rfl (by omega) (zlt rfl) n1 ?_
  refine Zp.aload_n k_179_20 rfl ?_
  refine Zp.getR k_179_21 rfl (zlt rfl) m_93 r_93_6 ?_
  refine Zp.iload_n k_179_24 rfl ?_
  refine Zp.iald _ k_179_25 m_98 rfl (by omega) (zlt rfl) n2 ?_
  refine Zp.callv2I v_161 k_179_26 m_93 (Nat.le_of_ble_eq_true rfl) (Nat.le_of_ble_eq_true rfl) (c_hatesM mq (by omega) (by omega) ⟨_, rfl, ?_⟩)
  refine Zp.aload_n k_179_29 rfl ?_
  refine Zp.getR k_179_30 rfl (zlt rfl) m_93 r_93_7 ?_
  refine Zp.iload_n k_179_33 rfl ?_
  refine Zp.iald _ k_179_34 m_99 rfl (by omega) (zlt rfl) n3 ?_
  refine Zp.iaddN k_179_35 ?_
  refine Zp.callv3V v_162 k_179_36 m_93 (Nat.le_of_ble_eq_true rfl) (Nat.le_of_ble_eq_true rfl) (c_becomesHateM mq o1 (by omega) (by omega) (v := woV S P i) (by rw [nI_toInt (by omega)]; show min 9 _ = _; omega) (fun I2 mq2 f2 => ⟨rfl, ?_⟩))
  refine Zp.aload_n k_179_39 rfl ?_
  refine Zp.getR k_179_40 rfl (zlt rfl) m_93 r_93_1 ?_
  refine Zp.bipush (nI 35) k_179_43 (by decide) ?_
  refine Zp.dup2 k_179_45 rfl rfl ?_
  refine Zp.iald _ k_179_46 m_95 rfl (by omega) (zlt rfl) ((f2.2 35 (by decide)).trans hu) ?_
  refine Zp.iconst (nI 1) k_179_47 (by decide) ?_
  refine Zp.iload_n k_179_48 rfl ?_
  refine Zp.ishl k_179_49 ?_
  refine Zp.ior k_179_50 ?_
  refine Zp.iast _ k_179_51 m_95 rfl (by omega) (zlt rfl) ?_
  refine Zp.vret k_179_52 vr_179 ?_
  exact hq _ (mq2.fr (by show sn S ≤ 5; omega) (fun j hj => zpu_k _ _ _ (by omega))) ((zpu_s _ _ _ _).trans (bOr_at hu6 (by omega)).1) (fun q h => by rw [zpu_q _ _ _ h]; exact f2.1 q h) (fun j h => by rw [zpu_k _ _ _ (by omega)]; exact f2.2 j (by omega))
theorem c_leastRound {a b c : Nat} (hp : Sp I 2 S) (so : So S) (ha : a < sn S) (hb : b < sn S) (hc : c < sn S) (hq : Q (some (.int (nI (min (fl S a b) (min (fl S b c) (fl S c a)))))) I L) : Zm G 99 [.ref 0, .int (nI a), .int (nI b), .int (nI c)] I L Q := by
  have h1 := fl_le so a b
  have h2 := fl_le so b c
  have h3 := fl_le so c a
  refine Zm.go [some (.ref _), some (.int _), some (.int _), some (.int _), none, none, none] vl_99 rfl ?_
  refine Zp.aload_n k_99_0 rfl ?_
  refine Zp.getR k_99_1 rfl (zlt rfl) m_0 r_0_0 ?_
  refine Zp.getR k_99_4 rfl (zlt rfl) m_1 r_1_0 ?_
  refine Zp.iload_n k_99_7 rfl ?_
  refine Zp.iload_n k_99_8 rfl ?_
  refine Zp.callv2I v_60 k_99_9 m_2 (Nat.le_of_ble_eq_true rfl) (Nat.le_of_ble_eq_true rfl) (c_feelingOf sa_2 hp so ha hb ⟨_, rfl, ?_⟩)
  refine Zp.istore [some (.ref _), some (.int _), some (.int _), some (.int _), some (.int _), none, none] k_99_12 (Nat.lt_of_lt_of_eq (zlt rfl : 4 < 7) vl_99.symm) rfl ?_
  refine Zp.aload_n k_99_14 rfl ?_
  refine Zp.getR k_99_15 rfl (zlt rfl) m_0 r_0_0 ?_
  refine Zp.getR k_99_18 rfl (zlt rfl) m_1 r_1_0 ?_
  refine Zp.iload_n k_99_21 rfl ?_
  refine Zp.iload_n k_99_22 rfl ?_
  refine Zp.callv2I v_60 k_99_23 m_2 (Nat.le_of_ble_eq_true rfl) (Nat.le_of_ble_eq_true rfl) (c_feelingOf sa_2 hp so hb hc ⟨_, rfl, ?_⟩)
  refine Zp.istore [some (.ref _), some (.int _), some (.int _), some (.int _), some (.int _), some (.int _), none] k_99_26 (Nat.lt_of_lt_of_eq (zlt rfl : 5 < 7) vl_99.symm) rfl ?_
  refine Zp.aload_n k_99_28 rfl ?_
  refine Zp.getR k_99_29 rfl (zlt rfl) m_0 r_0_0 ?_
  refine Zp.getR k_99_32 rfl (zlt rfl) m_1 r_1_0 ?_
  refine Zp.iload_n k_99_35 rfl ?_
  refine Zp.iload_n k_99_36 rfl ?_
  refine Zp.callv2I v_60 k_99_37 m_2 (Nat.le_of_ble_eq_true rfl) (Nat.le_of_ble_eq_true rfl) (c_feelingOf sa_2 hp so hc ha ⟨_, rfl, ?_⟩)
  refine Zp.istore [some (.ref _), some (.int _), some (.int _), some (.int _), some (.int _), some (.int _), some (.int _)] k_99_40 (Nat.lt_of_lt_of_eq (zlt rfl : 6 < 7) vl_99.symm) rfl ?_
  refine Zp.iload k_99_42 rfl ?_
  refine Zp.iload k_99_44 rfl ?_
  refine Zp.iload k_99_46 rfl ?_
  refine Zp.mminN k_99_48 (Nat.le_of_ble_eq_true rfl) (by omega) (by omega) ?_
  refine Zp.mminN k_99_51 (Nat.le_of_ble_eq_true rfl) (by omega) (by omega) ?_
  refine Zp.iret _ k_99_54 vr_99 rfl ?_
  exact hq
end ASKED0
section ASKED
variable {G : zG} {A : zQs} {x y z : Int32}
theorem B_use (ho : Ao A) : zBoth G 84 180 [.int x] A := by
  obtain ⟨⟨so, sz, sst, lo, po, eo⟩, ok0, ok1, oi0, oi1, ot, ob, of_, or_, oh⟩ := id ho
  obtain ⟨o1, o2, o3, o4, o5, o6, o7⟩ := id so
  obtain ⟨p1, p2, p3⟩ := id lo
  obtain ⟨u1, u2⟩ := id po
  obtain ⟨e1, e2⟩ := id eo
  by_cases v : 0 ≤ x.toInt ∧ x.toInt < (lc (kP (aK A)) : Int)
  · obtain ⟨i, hi, rfl, ei⟩ := zin_nI v.1 v.2
    obtain ⟨i1, i2, i3, i4, i5⟩ := p3 i hi
    by_cases w : lu (kP (aK A)) / 2 ^ i % 2 = 1
    · refine ⟨.int (-2), A, ho, fun I L Q pc hq => ?_, fun I L Q pm hq => ?_⟩
      · obtain ⟨⟨hp, lp, pp, ep⟩, hk, hi0, hi1, ht, hb, hf, hr, hh⟩ := id pc
        refine Zm.go [some (.ref _), some (.int _)] vl_84 rfl ?_
        refine Zp.aload_n k_84_0 rfl ?_
        refine Zp.getR k_84_1 rfl (zlt rfl) m_0 r_0_0 ?_
        refine Zp.getR k_84_4 rfl (zlt rfl) m_1 r_1_1 ?_
        refine Zp.iload_n k_84_7 rfl ?_
        refine Zp.callv1I v_49 k_84_8 m_5 (Nat.le_of_ble_eq_true rfl) (Nat.le_of_ble_eq_true rfl) (c_has la_5 lp lo ⟨_, rfl, ?_⟩)
        refine Zp.if_neB k_84_11 (fun c_11 => ?_) (fun c_11 => absurd c_11 (by omega))
        refine Zp.aload_n k_84_16 rfl ?_
        refine Zp.getR k_84_17 rfl (zlt rfl) m_0 r_0_0 ?_
        refine Zp.getR k_84_20 rfl (zlt rfl) m_1 r_1_1 ?_
        refine Zp.iload_n k_84_23 rfl ?_
        refine Zp.callv1I v_50 k_84_24 m_5 (Nat.le_of_ble_eq_true rfl) (Nat.le_of_ble_eq_true rfl) (c_isUsed la_5 lp lo (by omega) ⟨_, rfl, ?_⟩)
        refine Zp.if_eqB k_84_27 (fun c_27 => (by first | exact absurd w c_27 | exact absurd w c_27)) (fun c_27 => ?_)
        refine Zp.bipush (-2) k_84_30 (by decide) ?_
        refine Zp.iret _ k_84_32 vr_84 rfl ?_
        exact hq I pc (FrC.rf I)
      · obtain ⟨m3, ⟨mp, xp⟩, m4, ms1, ms2, ms3, mk0, mk1, mi0, mi1, mt, mb, mf, mr, mh⟩ := id pm
        refine Zm.go [some (.ref _), some (.int _)] vl_180 rfl ?_
        refine Zp.aload_n k_180_0 rfl ?_
        refine Zp.iload_n k_180_1 rfl ?_
        refine Zp.callv1I v_157 k_180_2 m_93 (Nat.le_of_ble_eq_true rfl) (Nat.le_of_ble_eq_true rfl) (c_isSlipM m4 (by omega) ⟨_, rfl, ?_⟩)
        refine Zp.if_neB k_180_5 (fun c_5 => ?_) (fun c_5 => absurd c_5 (by omega))
        refine Zp.aload_n k_180_10 rfl ?_
        refine Zp.getR k_180_11 rfl (zlt rfl) m_93 r_93_0 ?_
        refine Zp.bipush (nI 35) k_180_14 (by decide) ?_
        refine Zp.iald _ k_180_16 m_94 rfl (by omega) (zlt rfl) (by first | exact mp.2.2.1 | exact mp.2.2.2.1 | exact mp.2.2.2.2.1 | exact mp.2.2.2.2.2.1 | exact mp.2.2.2.2.2.2 | exact xp.1 | exact xp.2.1 | exact xp.2.2.2.1 | exact xp.2.2.1 _ (by omega) | exact xp.2.2.2.2.2 _ (by omega) | exact xp.2.2.2.2.1 _ (by omega) | exact mp.hh (by omega) (by omega) | exact mp.kk (by omega) | exact mp.2.1 _ (by omega)) ?_
        refine Zp.iload_n k_180_17 rfl ?_
        refine Zp.ishr k_180_18 ?_
        refine Zp.iconst (nI 1) k_180_19 (by decide) ?_
        refine Zp.iand k_180_20 ?_
        rw [bit_at p2 (by omega)]
        refine Zp.iconst (nI 1) k_180_21 (by decide) ?_
        refine Zp.icmp_neN k_180_22 (by omega) (by omega) (fun c_22 => absurd c_22 (by omega)) (fun c_22 => ?_)
        refine Zp.bipush (-2) k_180_25 (by decide) ?_
        refine Zp.iret _ k_180_27 vr_180 rfl ?_
        first | exact hq I L pm (FrM.rf I) | exact hq I2 L pm2 (fun q hq => s2 q (by omega))
    · refine ⟨.int (nI (woV (kS (aK A)) (kP (aK A)) i)), wK A (woS (kS (aK A)) (kP (aK A)) i, (lc (kP (aK A)), bOr (lu (kP (aK A))) i, (kP (aK A)).2.2), (aK A).2.2), ho.now ⟨woS_o so _ i, sz.uh o1 i1 i2 i3, sst, ⟨p1, (bOr_at p2 (by omega)).2, p3⟩, po, eo⟩ ⟨rfl, rfl, fun _ _ => ⟨rfl, rfl, rfl⟩⟩, fun I L Q pc hq => ?_, fun I L Q pm hq => ?_⟩
      · obtain ⟨⟨hp, lp, pp, ep⟩, hk, hi0, hi1, ht, hb, hf, hr, hh⟩ := id pc
        refine Zm.go [some (.ref _), some (.int _)] vl_84 rfl ?_
        refine Zp.aload_n k_84_0 rfl ?_
        refine Zp.getR k_84_1 rfl (zlt rfl) m_0 r_0_0 ?_
        refine Zp.getR k_84_4 rfl (zlt rfl) m_1 r_1_1 ?_
        refine Zp.iload_n k_84_7 rfl ?_
        refine Zp.callv1I v_49 k_84_8 m_5 (Nat.le_of_ble_eq_true rfl) (Nat.le_of_ble_eq_true rfl) (c_has la_5 lp lo ⟨_, rfl, ?_⟩)
        refine Zp.if_neB k_84_11 (fun c_11 => ?_) (fun c_11 => absurd c_11 (by omega))
        refine Zp.aload_n k_84_16 rfl ?_
        refine Zp.getR k_84_17 rfl (zlt rfl) m_0 r_0_0 ?_
        refine Zp.getR k_84_20 rfl (zlt rfl) m_1 r_1_1 ?_
        refine Zp.iload_n k_84_23 rfl ?_
        refine Zp.callv1I v_50 k_84_24 m_5 (Nat.le_of_ble_eq_true rfl) (Nat.le_of_ble_eq_true rfl) (c_isUsed la_5 lp lo (by omega) ⟨_, rfl, ?_⟩)
        refine Zp.if_eqB k_84_27 (fun c_27 => ?_) (fun c_27 => (by first | exact absurd c_27 w | exact absurd w c_27))
        refine Zp.aload_n k_84_33 rfl ?_
        refine Zp.getR k_84_34 rfl (zlt rfl) m_0 r_0_0 ?_
        refine Zp.getR k_84_37 rfl (zlt rfl) m_1 r_1_1 ?_
        refine Zp.dup k_84_40 rfl ?_
        refine Zp.getV k_84_41 rfl (zlt rfl) m_5 lp.2.1 ?_
        refine Zp.iconst (nI 1) k_84_44 (by decide) ?_
        refine Zp.iload_n k_84_45 rfl ?_
        refine Zp.ishl k_84_46 ?_
        refine Zp.ior k_84_47 ?_
        refine Zp.putI k_84_48 rfl (zlt rfl) m_5 ?_
        refine Zp.aload_n k_84_51 rfl ?_
        refine Zp.getR k_84_52 rfl (zlt rfl) m_0 r_0_0 ?_
        refine Zp.getR k_84_55 rfl (zlt rfl) m_1 r_1_1 ?_
        refine Zp.aload_n k_84_58 rfl ?_
        refine Zp.getR k_84_59 rfl (zlt rfl) m_0 r_0_0 ?_
        refine Zp.getR k_84_62 rfl (zlt rfl) m_1 r_1_0 ?_
        refine Zp.iload_n k_84_65 rfl ?_
        refine Zp.callv2I v_53 k_84_66 m_5 (Nat.le_of_ble_eq_true rfl) (Nat.le_of_ble_eq_true rfl) (c_worsen (P := (lc (kP (aK A)), bOr (lu (kP (aK A))) i, (kP (aK A)).2.2)) (n := sn (kS (aK A))) la_5 (lp.used (bOr_at p2 (by omega)).1) ⟨p1, (bOr_at p2 (by omega)).2, p3⟩ o1 sa_2 (hp.fr (zpu_q _ _ _ (by decide)) (zpu_q _ _ _ (by decide)) (zpu_q _ _ _ (by decide))) so hi (fun I2 hp2 f2 => ⟨_, rfl, ?_⟩))
        refine Zp.iret _ k_84_69 vr_84 rfl ?_
        have f3 : ∀ q, q ≠ 4 → q ≠ 5 → I2 q = I q := fun q h4 h5 => (f2 q h4).trans (zpu_q _ _ _ h5)
        exact hq _ (pc.now ⟨hp2, (lp.used (bOr_at p2 (by omega)).1).fr (f2 _ (by decide)) (f2 _ (by decide)) (f2 _ (by decide)) (f2 _ (by decide)), pp.fr (f3 _ (by decide) (by decide)) (f3 _ (by decide) (by decide)), ep.fr (f3 _ (by decide) (by decide)) (f3 _ (by decide) (by decide)) (f3 _ (by decide) (by decide))⟩ (fun q h => f3 q (by omega) (by omega))) (fun q h => f3 q (by omega) (by omega))
      · obtain ⟨m3, ⟨mp, xp⟩, m4, ms1, ms2, ms3, mk0, mk1, mi0, mi1, mt, mb, mf, mr, mh⟩ := id pm
        refine Zm.go [some (.ref _), some (.int _)] vl_180 rfl ?_
        refine Zp.aload_n k_180_0 rfl ?_
        refine Zp.iload_n k_180_1 rfl ?_
        refine Zp.callv1I v_157 k_180_2 m_93 (Nat.le_of_ble_eq_true rfl) (Nat.le_of_ble_eq_true rfl) (c_isSlipM m4 (by omega) ⟨_, rfl, ?_⟩)
        refine Zp.if_neB k_180_5 (fun c_5 => ?_) (fun c_5 => absurd c_5 (by omega))
        refine Zp.aload_n k_180_10 rfl ?_
        refine Zp.getR k_180_11 rfl (zlt rfl) m_93 r_93_0 ?_
        refine Zp.bipush (nI 35) k_180_14 (by decide) ?_
        refine Zp.iald _ k_180_16 m_94 rfl (by omega) (zlt rfl) (by first | exact mp.2.2.1 | exact mp.2.2.2.1 | exact mp.2.2.2.2.1 | exact mp.2.2.2.2.2.1 | exact mp.2.2.2.2.2.2 | exact xp.1 | exact xp.2.1 | exact xp.2.2.2.1 | exact xp.2.2.1 _ (by omega) | exact xp.2.2.2.2.2 _ (by omega) | exact xp.2.2.2.2.1 _ (by omega) | exact mp.hh (by omega) (by omega) | exact mp.kk (by omega) | exact mp.2.1 _ (by omega)) ?_
        refine Zp.iload_n k_180_17 rfl ?_
        refine Zp.ishr k_180_18 ?_
        refine Zp.iconst (nI 1) k_180_19 (by decide) ?_
        refine Zp.iand k_180_20 ?_
        rw [bit_at p2 (by omega)]
        refine Zp.iconst (nI 1) k_180_21 (by decide) ?_
        refine Zp.icmp_neN k_180_22 (by omega) (by omega) (fun c_22 => ?_) (fun c_22 => absurd c_22 (by omega))
        refine Zp.aload_n k_180_28 rfl ?_
        refine Zp.callv0V v_159 k_180_29 m_93 (Nat.le_of_ble_eq_true rfl) (Nat.le_of_ble_eq_true rfl) (c_goS pm ho (fun I2 pm2 mq xq s1 s2 => ⟨rfl, ?_⟩))
        refine Zp.aload_n k_180_32 rfl ?_
        refine Zp.iload_n k_180_33 rfl ?_
        refine Zp.callv1V v_179 k_180_34 m_93 (Nat.le_of_ble_eq_true rfl) (Nat.le_of_ble_eq_true rfl) (c_usesM (P := kP (aK A)) mq so lo hi ((congrFun (s2 97 (by decide)) i).trans (ms1 i hi)) ((congrFun (s2 98 (by decide)) i).trans (ms2 i hi)) ((congrFun (s2 99 (by decide)) i).trans (ms3 i hi)) xq.1 p2 (fun I4 mq4 t0 t1 t2 => ⟨rfl, ?_⟩))
        refine Zp.aload_n k_180_37 rfl ?_
        refine Zp.callv0V v_160 k_180_38 m_93 (Nat.le_of_ble_eq_true rfl) (Nat.le_of_ble_eq_true rfl) (c_settlesM (fun I5 g1 g2 g3 => ⟨rfl, ?_⟩))
        have f5 : ∀ q, q ≠ 94 → q ≠ 95 → I5 q = I q := fun q h4 h5 => (g3 q h4).trans ((t1 q h5).trans (s2 q h5))
        have mq5 : Mp (I5 95) (woS (kS (aK A)) (kP (aK A)) i) := by rw [g3 95 (by decide)]; exact mq4
        refine Zp.aload_n k_180_41 rfl ?_
        refine Zp.aload_n k_180_42 rfl ?_
        refine Zp.getR k_180_43 rfl (zlt rfl) m_93 r_93_5 ?_
        refine Zp.iload_n k_180_46 rfl ?_
        refine Zp.iald _ k_180_47 m_97 rfl (by omega) (zlt rfl) ((congrFun (f5 97 (by decide) (by decide)) i).trans (ms1 i hi)) ?_
        refine Zp.aload_n k_180_48 rfl ?_
        refine Zp.getR k_180_49 rfl (zlt rfl) m_93 r_93_6 ?_
        refine Zp.iload_n k_180_52 rfl ?_
        refine Zp.iald _ k_180_53 m_98 rfl (by omega) (zlt rfl) ((congrFun (f5 98 (by decide) (by decide)) i).trans (ms2 i hi)) ?_
        refine Zp.callv2I v_161 k_180_54 m_93 (Nat.le_of_ble_eq_true rfl) (Nat.le_of_ble_eq_true rfl) (c_hatesM mq5 (by omega) (by omega) ⟨_, rfl, ?_⟩)
        refine Zp.iret _ k_180_57 vr_180 rfl ?_
        have k5 : Km (I5 94) (woS (kS (aK A)) (kP (aK A)) i, (lc (kP (aK A)), bOr (lu (kP (aK A))) i, (kP (aK A)).2.2), (aK A).2.2) := by
          refine ⟨mq4.fr o1 fun j hj => g1 j (by omega), ?_⟩
          obtain ⟨x1, x2, x3, x4, x5, x6⟩ := xq
          have gg : ∀ j, 36 ≤ j → j < 58 → I5 94 j = I2 95 j := fun j h h8 => (g1 j h8).trans (t2 j h)
          exact ⟨(g1 35 (by decide)).trans t0, (gg _ (by omega) (by omega)).trans x2, fun k hk => (gg _ (by omega) (by have h9 : k < (kU (aK A)).1 := hk; omega)).trans (x3 k hk), (gg _ (by omega) (by omega)).trans x4, fun k hk => (gg _ (by omega) (by have h9 : k < (kE (aK A)).1 := hk; omega)).trans (x5 k hk), fun k hk => (gg _ (by omega) (by have h9 : k < (kE (aK A)).1 := hk; omega)).trans (x6 k hk)⟩
        refine zqN (hq _ _ (pm.st ho ⟨rfl, rfl, fun _ _ => ⟨rfl, rfl, rfl⟩⟩ k5 (fun j hj => ?_) f5) (fun q h => f5 q (by omega) (by omega))) (va_up_s _ _ _)
        rw [g2 j hj, t1 94 (by decide), s2 94 (by decide)]
  · refine ⟨.int (-1), A, ho, fun I L Q pc hq => ?_, fun I L Q pm hq => ?_⟩
    · obtain ⟨⟨hp, lp, pp, ep⟩, hk, hi0, hi1, ht, hb, hf, hr, hh⟩ := id pc
      refine Zm.go [some (.ref _), some (.int _)] vl_84 rfl ?_
      refine Zp.aload_n k_84_0 rfl ?_
      refine Zp.getR k_84_1 rfl (zlt rfl) m_0 r_0_0 ?_
      refine Zp.getR k_84_4 rfl (zlt rfl) m_1 r_1_1 ?_
      refine Zp.iload_n k_84_7 rfl ?_
      refine Zp.callv1I v_49 k_84_8 m_5 (Nat.le_of_ble_eq_true rfl) (Nat.le_of_ble_eq_true rfl) (c_has la_5 lp lo ⟨_, rfl, ?_⟩)
      refine Zp.if_neB k_84_11 (fun c_11 => absurd c_11 (by omega)) (fun c_11 => ?_)
      refine Zp.iconst (-1) k_84_14 (by decide) ?_
      refine Zp.iret _ k_84_15 vr_84 rfl ?_
      exact hq I pc (FrC.rf I)
    · obtain ⟨m3, ⟨mp, xp⟩, m4, ms1, ms2, ms3, mk0, mk1, mi0, mi1, mt, mb, mf, mr, mh⟩ := id pm
      refine Zm.go [some (.ref _), some (.int _)] vl_180 rfl ?_
      refine Zp.aload_n k_180_0 rfl ?_
      refine Zp.iload_n k_180_1 rfl ?_
      refine Zp.callv1I v_157 k_180_2 m_93 (Nat.le_of_ble_eq_true rfl) (Nat.le_of_ble_eq_true rfl) (c_isSlipM m4 (by omega) ⟨_, rfl, ?_⟩)
      refine Zp.if_neB k_180_5 (fun c_5 => absurd c_5 (by omega)) (fun c_5 => ?_)
      refine Zp.iconst (-1) k_180_8 (by decide) ?_
      refine Zp.iret _ k_180_9 vr_180 rfl ?_
      first | exact hq I L pm (FrM.rf I) | exact hq I2 L pm2 (fun q hq => s2 q (by omega))
theorem B_forgive (ho : Ao A) : zBoth G 86 182 [.int x] A := by
  obtain ⟨⟨so, sz, sst, lo, po, eo⟩, ok0, ok1, oi0, oi1, ot, ob, of_, or_, oh⟩ := id ho
  obtain ⟨o1, o2, o3, o4, o5, o6, o7⟩ := id so
  obtain ⟨p1, p2, p3⟩ := id lo
  obtain ⟨u1, u2⟩ := id po
  obtain ⟨e1, e2⟩ := id eo
  by_cases v : 0 ≤ x.toInt ∧ x.toInt < (sn (kS (aK A)) : Int)
  · obtain ⟨a, ha, rfl, ea⟩ := zin_nI v.1 v.2
    have hv2 : ∀ i j, va_up (fun j => if a * 5 ≤ j ∧ j < a * 5 + i then 0 else sht (kS (aK A)) j) (a * 5 + i) 0 j = if a * 5 ≤ j ∧ j < a * 5 + (i + 1) then 0 else sht (kS (aK A)) j := by
      intro i j
      by_cases c2 : j = a * 5 + i
      · subst c2; rw [va_up_s, if_pos (by omega)]
      · rw [va_up_n _ _ c2]
        by_cases c1 : a * 5 ≤ j ∧ j < a * 5 + i
        · rw [if_pos c1, if_pos (by omega)]
        · rw [if_neg c1, if_neg (by omega)]
    refine ⟨.int (nI (fgC (kS (aK A)) a 5)), wK A (fgS (kS (aK A)) a, (aK A).2), ho.now (ho.1.uS (fgS_o so a) (fgS_z sz a) rfl sst) (Kl.uS rfl), fun I L Q pc hq => ?_, fun I L Q pm hq => ?_⟩
    · obtain ⟨⟨hp, lp, pp, ep⟩, hk, hi0, hi1, ht, hb, hf, hr, hh⟩ := id pc
      refine Zm.go [some (.ref _), some (.int _)] vl_86 rfl ?_
      refine Zp.aload_n k_86_0 rfl ?_
      refine Zp.getR k_86_1 rfl (zlt rfl) m_0 r_0_0 ?_
      refine Zp.getR k_86_4 rfl (zlt rfl) m_1 r_1_0 ?_
      refine Zp.iload_n k_86_7 rfl ?_
      refine Zp.callv1I v_56 k_86_8 m_2 (Nat.le_of_ble_eq_true rfl) (Nat.le_of_ble_eq_true rfl) (c_isHelper sa_2 hp so ⟨_, rfl, ?_⟩)
      refine Zp.if_eqB k_86_11 (fun c_11 => absurd c_11 (by omega)) (fun c_11 => ?_)
      refine Zp.aload_n k_86_14 rfl ?_
      refine Zp.getR k_86_15 rfl (zlt rfl) m_0 r_0_0 ?_
      refine Zp.getR k_86_18 rfl (zlt rfl) m_1 r_1_0 ?_
      refine Zp.iload_n k_86_21 rfl ?_
      refine Zp.callv1I v_66 k_86_22 m_2 (Nat.le_of_ble_eq_true rfl) (Nat.le_of_ble_eq_true rfl) (c_forgiveAll sa_2 hp so sz ha (fun I2 hp2 f2 => ⟨_, rfl, ?_⟩))
      refine Zp.goto k_86_25 ?_
      refine Zp.iret _ k_86_29 vr_86 rfl ?_
      exact hq _ (pc.soup hp2 (fun q _ _ h4 => f2 q h4)) (fun q h => f2 q (by omega))
    · obtain ⟨m3, ⟨mp, xp⟩, m4, ms1, ms2, ms3, mk0, mk1, mi0, mi1, mt, mb, mf, mr, mh⟩ := id pm
      have loop : ∀ k i (I1 : zI), i + k = 5 → Mp (I1 94) (sUht (kS (aK A)) (fun j => if a * 5 ≤ j ∧ j < a * 5 + i then 0 else sht (kS (aK A)) j)) → (∀ j, 35 ≤ j → I1 94 j = I 94 j) → (∀ q, q ≠ 94 → I1 q = I q) → Zp G 182 14 [some (.ref 93), some (.int (nI a)), some (.int (nI (fgC (kS (aK A)) a i))), some (.int (nI i))] [] I1 L Q := by
        intro k
        induction k with
        | zero =>
          intro i I1 hi m1 h1 h2
          have e : i = 5 := by omega
          subst e
          refine Zp.iload_n k_182_14 rfl ?_
          refine Zp.iconst (nI 5) k_182_15 (by decide) ?_
          refine Zp.icmp_geN k_182_16 (by omega) (by omega) (fun c_16 => ?_) (fun c_16 => absurd c_16 (by omega))
          refine Zp.iload_n k_182_51 rfl ?_
          refine Zp.iret _ k_182_52 vr_182 rfl ?_
          exact hq _ _ (pm.soup ho rfl m1 h1 (fun q h _ => h2 q h)) (fun q h => h2 q (by omega))
        | succ k ih =>
          intro i I1 hi m1 h1 h2
          have hl := fgC_le (kS (aK A)) a i
          have hv : I1 94 (5 + 5 * a + i) = nI (sht (kS (aK A)) (a * 5 + i)) := (m1.hh (by omega) (by omega)).trans (congrArg nI (if_neg (by omega)))
          have hj := o7 (a * 5 + i)
          have m2 : Mp (zpu I1 94 (5 + 5 * a + i) (nI 0) 94) (sUht (kS (aK A)) (fun j => if a * 5 ≤ j ∧ j < a * 5 + (i + 1) then 0 else sht (kS (aK A)) j)) := by
            have := m1.uh (v := 0) (x := nI 0) o1 rfl (show a < 5 by omega) (show i < 5 by omega)
            rw [← show va_up (fun j => if a * 5 ≤ j ∧ j < a * 5 + i then 0 else sht (kS (aK A)) j) (a * 5 + i) 0 = fun j => if a * 5 ≤ j ∧ j < a * 5 + (i + 1) then 0 else sht (kS (aK A)) j from funext fun j => hv2 i j]
            exact this
          refine Zp.iload_n k_182_14 rfl ?_
          refine Zp.iconst (nI 5) k_182_15 (by decide) ?_
          refine Zp.icmp_geN k_182_16 (by omega) (by omega) (fun c_16 => absurd c_16 (by omega)) (fun c_16 => ?_)
          refine Zp.iload_n k_182_19 rfl ?_
          refine Zp.aload_n k_182_20 rfl ?_
          refine Zp.iconst (nI 5) k_182_21 (by decide) ?_
          refine Zp.iconst (nI 5) k_182_22 (by decide) ?_
          refine Zp.iload_n k_182_23 rfl ?_
          refine Zp.imulN k_182_24 ?_
          refine Zp.iaddN k_182_25 ?_
          refine Zp.iload_n k_182_26 rfl ?_
          refine Zp.iaddN k_182_27 ?_
          refine Zp.iconst (nI 0) k_182_28 (by decide) ?_
          refine Zp.callv2I v_177 k_182_29 m_93 (Nat.le_of_ble_eq_true rfl) (Nat.le_of_ble_eq_true rfl) (c_becomesM (by omega) ⟨_, rfl, ?_⟩)
          rw [hv]
          refine Zp.if_leN k_182_32 (by omega) (fun c_32 => ?_) (fun c_32 => ?_)
          · refine Zp.iconst (nI 0) k_182_39 (by decide) ?_
            refine Zp.calls1I vs_132 k_182_40 (Nat.le_of_ble_eq_true rfl) (Nat.le_of_ble_eq_true rfl) (c_flagNM (by decide) ⟨_, rfl, ?_⟩)
            refine Zp.iaddN k_182_43 ?_
            refine Zp.istore_n [some (.ref _), some (.int _), some (.int _), some (.int _)] k_182_44 (Nat.lt_of_lt_of_eq (zlt rfl : 2 < 4) vl_182.symm) rfl ?_
            refine Zp.iinc (nI (_ + 1)) [some (.ref _), some (.int _), some (.int _), some (.int _)] k_182_45 rfl (nI_1 _) (Nat.lt_of_lt_of_eq (zlt rfl : 3 < 4) vl_182.symm) rfl ?_
            refine Zp.goto k_182_48 ?_
            refine Zp.locs [some (.ref 93), some (.int (nI a)), some (.int (nI (fgC (kS (aK A)) a (i + 1)))), some (.int (nI (i + 1)))] (fun j u hj => ?_) (ih (i + 1) _ (by omega) m2 (fun j h => by rw [zpu_k _ _ _ (by omega)]; exact h1 j h) (fun q h => by rw [zpu_q _ _ _ h]; exact h2 q h))
            match j, hj with
            | 0, hj => exact hj
            | 1, hj => exact hj
            | 2, hj =>
              refine Eq.trans ?_ hj
              show some (some (Value.int (nI (_ + _)))) = some (some (Value.int (nI (fgC (kS (aK A)) a i + if 0 < sht (kS (aK A)) (a * 5 + i) then 1 else 0))))
              first | rw [if_pos (by omega)] | rw [if_neg (by omega)]
            | 3, hj => exact hj
            | _ + 4, hj => exact absurd hj (by simp)
          · refine Zp.iconst (nI 1) k_182_35 (by decide) ?_
            refine Zp.goto k_182_36 ?_
            refine Zp.calls1I vs_132 k_182_40 (Nat.le_of_ble_eq_true rfl) (Nat.le_of_ble_eq_true rfl) (c_flagNM (by decide) ⟨_, rfl, ?_⟩)
            refine Zp.iaddN k_182_43 ?_
            refine Zp.istore_n [some (.ref _), some (.int _), some (.int _), some (.int _)] k_182_44 (Nat.lt_of_lt_of_eq (zlt rfl : 2 < 4) vl_182.symm) rfl ?_
            refine Zp.iinc (nI (_ + 1)) [some (.ref _), some (.int _), some (.int _), some (.int _)] k_182_45 rfl (nI_1 _) (Nat.lt_of_lt_of_eq (zlt rfl : 3 < 4) vl_182.symm) rfl ?_
            refine Zp.goto k_182_48 ?_
            refine Zp.locs [some (.ref 93), some (.int (nI a)), some (.int (nI (fgC (kS (aK A)) a (i + 1)))), some (.int (nI (i + 1)))] (fun j u hj => ?_) (ih (i + 1) _ (by omega) m2 (fun j h => by rw [zpu_k _ _ _ (by omega)]; exact h1 j h) (fun q h => by rw [zpu_q _ _ _ h]; exact h2 q h))
            match j, hj with
            | 0, hj => exact hj
            | 1, hj => exact hj
            | 2, hj =>
              refine Eq.trans ?_ hj
              show some (some (Value.int (nI (_ + _)))) = some (some (Value.int (nI (fgC (kS (aK A)) a i + if 0 < sht (kS (aK A)) (a * 5 + i) then 1 else 0))))
              first | rw [if_pos (by omega)] | rw [if_neg (by omega)]
            | 3, hj => exact hj
            | _ + 4, hj => exact absurd hj (by simp)
      
      refine Zm.go [some (.ref _), some (.int _), none, none] vl_182 rfl ?_
      refine Zp.aload_n k_182_0 rfl ?_
      refine Zp.iload_n k_182_1 rfl ?_
      refine Zp.callv1I v_155 k_182_2 m_93 (Nat.le_of_ble_eq_true rfl) (Nat.le_of_ble_eq_true rfl) (c_isHelperM m3 (by omega) ⟨_, rfl, ?_⟩)
      refine Zp.if_neB k_182_5 (fun c_5 => ?_) (fun c_5 => absurd c_5 (by omega))
      refine Zp.iconst (nI 0) k_182_10 (by decide) ?_
      refine Zp.istore_n [some (.ref _), some (.int _), some (.int _), none] k_182_11 (Nat.lt_of_lt_of_eq (zlt rfl : 2 < 4) vl_182.symm) rfl ?_
      refine Zp.iconst (nI 0) k_182_12 (by decide) ?_
      refine Zp.istore_n [some (.ref _), some (.int _), some (.int _), some (.int _)] k_182_13 (Nat.lt_of_lt_of_eq (zlt rfl : 3 < 4) vl_182.symm) rfl ?_
      exact loop 5 0 I rfl (mp.uht0 a) (fun _ _ => rfl) (fun _ _ => rfl)
  · refine ⟨.int (-1), A, ho, fun I L Q pc hq => ?_, fun I L Q pm hq => ?_⟩
    · obtain ⟨⟨hp, lp, pp, ep⟩, hk, hi0, hi1, ht, hb, hf, hr, hh⟩ := id pc
      refine Zm.go [some (.ref _), some (.int _)] vl_86 rfl ?_
      refine Zp.aload_n k_86_0 rfl ?_
      refine Zp.getR k_86_1 rfl (zlt rfl) m_0 r_0_0 ?_
      refine Zp.getR k_86_4 rfl (zlt rfl) m_1 r_1_0 ?_
      refine Zp.iload_n k_86_7 rfl ?_
      refine Zp.callv1I v_56 k_86_8 m_2 (Nat.le_of_ble_eq_true rfl) (Nat.le_of_ble_eq_true rfl) (c_isHelper sa_2 hp so ⟨_, rfl, ?_⟩)
      refine Zp.if_eqB k_86_11 (fun c_11 => ?_) (fun c_11 => absurd c_11 (by omega))
      refine Zp.iconst (-1) k_86_28 (by decide) ?_
      refine Zp.iret _ k_86_29 vr_86 rfl ?_
      exact hq I pc (FrC.rf I)
    · obtain ⟨m3, ⟨mp, xp⟩, m4, ms1, ms2, ms3, mk0, mk1, mi0, mi1, mt, mb, mf, mr, mh⟩ := id pm
      refine Zm.go [some (.ref _), some (.int _), none, none] vl_182 rfl ?_
      refine Zp.aload_n k_182_0 rfl ?_
      refine Zp.iload_n k_182_1 rfl ?_
      refine Zp.callv1I v_155 k_182_2 m_93 (Nat.le_of_ble_eq_true rfl) (Nat.le_of_ble_eq_true rfl) (c_isHelperM m3 (by omega) ⟨_, rfl, ?_⟩)
      refine Zp.if_neB k_182_5 (fun c_5 => absurd c_5 (by omega)) (fun c_5 => ?_)
      refine Zp.iconst (-1) k_182_8 (by decide) ?_
      refine Zp.iret _ k_182_9 vr_182 rfl ?_
      first | exact hq I L pm (FrM.rf I) | exact hq I2 L pm2 (fun q hq => s2 q (by omega))
end ASKED
