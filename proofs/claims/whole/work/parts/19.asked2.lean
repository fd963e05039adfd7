/-! RUNS, AHEAD, LASTS, THREE, MATE, COUNT -/
/-- how many steps two turn, at most f -/
def laF (a b : Nat) : Nat → zSo → Nat
  | 0, _ => 0
  | f + 1, S => if tn S a b = 0 then 0 else laF a b f (stS S a b) + 1
theorem laF_le (a b : Nat) : ∀ f S, laF a b f S ≤ f
  | 0, _ => Nat.le_refl 0
  | f + 1, S => by
    have := laF_le a b f (stS S a b)
    unfold laF
    split <;> omega
/-- what sinks with every step while they turn -/
def phi (S : zSo) (a b : Nat) : Nat := 2 * sht S (a * 5 + b) + (if sstep S % 2 = 0 then 1 else 0)
theorem tn_pos {S : zSo} {a b : Nat} (h : 0 < tn S a b) : 0 < sht S (a * 5 + b) ∧ 0 < sht S (b * 5 + a) := by
  have h1 : 0 < fl S a b := Nat.lt_of_lt_of_le h (Nat.min_le_left _ _)
  have h2 : 0 < fl S b a := Nat.lt_of_lt_of_le h (Nat.min_le_right _ _)
  unfold fl at h1 h2
  constructor
  · split at h1
    · omega
    · split at h1 <;> omega
    · omega
    · omega
  · split at h2
    · omega
    · split at h2 <;> omega
    · omega
    · omega
theorem stS_go {S : zSo} {a b : Nat} (h : 0 < sht S (a * 5 + b)) : stS S a b = sUstep (coS (coS (sUdone S (min 999 (sdone S + tn S a b))) a b) b a) := by
  unfold stS
  rw [if_neg (by omega)]
theorem stS_set {S : zSo} {a b : Nat} (h : 0 < sht S (a * 5 + b)) : sset (stS S a b) = sset S := by
  rw [stS_go h]
  rfl
theorem phi_st {S : zSo} {a b : Nat} (ha : a < 5) (hb : b < 5) (hab : ¬ a = b) (h : 0 < tn S a b) : phi (stS S a b) a b < phi S a b := by
  obtain ⟨h1, h2⟩ := tn_pos h
  rw [stS_go h1]
  have e : sht (sUstep (coS (coS (sUdone S (min 999 (sdone S + tn S a b))) a b) b a)) (a * 5 + b) = sht S (a * 5 + b) - cby S a := by
    show va_up (va_up (sht S) (a * 5 + b) _) (b * 5 + a) _ (a * 5 + b) = _
    rw [va_up_n _ _ (by omega), va_up_s]
    rfl
  unfold phi
  rw [e]
  show 2 * (sht S (a * 5 + b) - cby S a) + (if (sstep S + 1) % 2 = 0 then 1 else 0) < _
  unfold cby
  (repeat' split) <;> omega
theorem phi_le {S : zSo} (ho : So S) (a b : Nat) : phi S a b ≤ 19 := by
  have := ho.2.2.2.2.2.2 (a * 5 + b)
  unfold phi
  split <;> omega
/-- who turns most with a: the place and the turn so far -/
def mtF (S : zSo) (a : Nat) : Nat → Int32 × Int32
  | 0 => (-4, -1)
  | i + 1 => if ¬ i = a ∧ (mtF S a i).2.toInt < (tn S a i : Int) then (nI i, nI (tn S a i)) else mtF S a i
theorem mtF_ge {S : zSo} (ho : So S) (a : Nat) : ∀ i, -1 ≤ (mtF S a i).2.toInt
  | 0 => by show -1 ≤ (-1 : Int32).toInt; decide
  | i + 1 => by
    have h1 := mtF_ge ho a i
    have h2 := tn_le ho a i
    unfold mtF
    split
    · show -1 ≤ (nI (tn S a i)).toInt
      rw [nI_toInt (by omega)]
      omega
    · exact h1
def bc2 (v : Nat) : Nat := v % 2 + v / 2 % 2 + v / 4 % 2 + v / 8 % 2 + v / 16 % 2 + v / 32 % 2
section ASKED2A
variable {G : zG} {I : zI} {L : zJ} {Q : zP}
theorem c_bitCount {v : Nat} (hv : v < 64) (hq : Q (some (.int (nI (bc2 v)))) I L) : Zm G 230 [.int (nI v)] I L Q := by
  refine Zm.go [some (.int _)] vl_230 rfl ?_
  refine Zp.iload_n k_230_0 rfl ?_
  refine Zp.iload_n k_230_1 rfl ?_
  refine Zp.iconst (nI 1) k_230_2 (by decide) ?_
  refine Zp.iushr k_230_3 ?_
  refine Zp.ldcw (nI 1431655765) k_230_4 (by decide) ?_
  refine Zp.iand k_230_7 ?_
  refine Zp.isub k_230_8 ?_
  refine Zp.istore_n [some (.int _)] k_230_9 (Nat.lt_of_lt_of_eq (zlt rfl : 0 < 1) vl_230.symm) rfl ?_
  refine Zp.iload_n k_230_10 rfl ?_
  refine Zp.ldcw (nI 858993459) k_230_11 (by decide) ?_
  refine Zp.iand k_230_14 ?_
  refine Zp.iload_n k_230_15 rfl ?_
  refine Zp.iconst (nI 2) k_230_16 (by decide) ?_
  refine Zp.iushr k_230_17 ?_
  refine Zp.ldcw (nI 858993459) k_230_18 (by decide) ?_
  refine Zp.iand k_230_21 ?_
  refine Zp.iadd k_230_22 ?_
  refine Zp.istore_n [some (.int _)] k_230_23 (Nat.lt_of_lt_of_eq (zlt rfl : 0 < 1) vl_230.symm) rfl ?_
  refine Zp.iload_n k_230_24 rfl ?_
  refine Zp.iload_n k_230_25 rfl ?_
  refine Zp.iconst (nI 4) k_230_26 (by decide) ?_
  refine Zp.iushr k_230_27 ?_
  refine Zp.iadd k_230_28 ?_
  refine Zp.ldcw (nI 252645135) k_230_29 (by decide) ?_
  refine Zp.iand k_230_32 ?_
  refine Zp.istore_n [some (.int _)] k_230_33 (Nat.lt_of_lt_of_eq (zlt rfl : 0 < 1) vl_230.symm) rfl ?_
  refine Zp.iload_n k_230_34 rfl ?_
  refine Zp.iload_n k_230_35 rfl ?_
  refine Zp.bipush (nI 8) k_230_36 (by decide) ?_
  refine Zp.iushr k_230_38 ?_
  refine Zp.iadd k_230_39 ?_
  refine Zp.istore_n [some (.int _)] k_230_40 (Nat.lt_of_lt_of_eq (zlt rfl : 0 < 1) vl_230.symm) rfl ?_
  refine Zp.iload_n k_230_41 rfl ?_
  refine Zp.iload_n k_230_42 rfl ?_
  refine Zp.bipush (nI 16) k_230_43 (by decide) ?_
  refine Zp.iushr k_230_45 ?_
  refine Zp.iadd k_230_46 ?_
  refine Zp.istore_n [some (.int _)] k_230_47 (Nat.lt_of_lt_of_eq (zlt rfl : 0 < 1) vl_230.symm) rfl ?_
  refine Zp.iload_n k_230_48 rfl ?_
  refine Zp.bipush (nI 63) k_230_49 (by decide) ?_
  refine Zp.iand k_230_51 ?_
  refine Zp.iret _ k_230_52 vr_230 rfl ?_
  refine zqe hq ?_
  clear hq
  revert v
  decide +kernel
theorem c_isNothing {q n : Nat} (hM : M0[q]? = some (6, n)) (h : I q 0 = -1) (hq : Q (some (.int (zbo True))) I L) : Zm G 42 [.ref q] I L Q := by
  refine Zm.go [some (.ref _)] vl_42 rfl ?_
  refine Zp.aload_n k_42_0 rfl ?_
  refine Zp.getV k_42_1 rfl (zlt rfl) hM h ?_
  refine Zp.if_geZ (-1) k_42_4 (by decide) (fun c_4 => ?_) (fun c_4 => ?_)
  · refine Zp.iconst (nI 0) k_42_11 (by decide) ?_
    refine Zp.iret _ k_42_12 vr_42 rfl ?_
    first | exact zq1 hq trivial | exact absurd c_4 (by decide)
  · refine Zp.iconst (nI 1) k_42_7 (by decide) ?_
    refine Zp.goto k_42_8 ?_
    refine Zp.iret _ k_42_12 vr_42 rfl ?_
    first | exact zq1 hq trivial | exact absurd c_4 (by decide)
theorem c_isNothingN {q n l : Nat} (hM : M0[q]? = some (6, n)) (h : I q 0 = nI l) (hl : l < 2 ^ 31) (hq : Q (some (.int (zbo False))) I L) : Zm G 42 [.ref q] I L Q := by
  refine Zm.go [some (.ref _)] vl_42 rfl ?_
  refine Zp.aload_n k_42_0 rfl ?_
  refine Zp.getV k_42_1 rfl (zlt rfl) hM h ?_
  refine Zp.if_geN k_42_4 (by omega) ?_
  refine Zp.iconst (nI 0) k_42_11 (by decide) ?_
  refine Zp.iret _ k_42_12 vr_42 rfl ?_
  exact zq0 hq id
end ASKED2A
section ASKED2
variable {G : zG} {A : zQs} {x y z : Int32}
theorem B_runs (ho : Ao A) : zBoth G 95 189 [.int x] A := by
  obtain ⟨⟨so, sz, sst, lo, po, eo⟩, ok0, ok1, oi0, oi1, ot, ob, of_, or_, oh⟩ := id ho
  obtain ⟨o1, o2, o3, o4, o5, o6, o7⟩ := id so
  obtain ⟨p1, p2, p3⟩ := id lo
  obtain ⟨u1, u2⟩ := id po
  obtain ⟨e1, e2⟩ := id eo
  by_cases v : 0 ≤ x.toInt ∧ x.toInt ≤ 4
  · obtain ⟨c, hc, rfl, ec⟩ := zin_nI (n := 5) v.1 (by omega)
    have go := plG_o so (kU (aK A)).2 (kU (aK A)).1
    have go5 := go.2.2.2.2.1
    have gn := plG_n (kS (aK A)) (kU (aK A)).2 (kU (aK A)).1
    rcases (by omega : c = 0 ∨ c = 1 ∨ c = 2 ∨ c = 3 ∨ c = 4) with rfl | rfl | rfl | rfl | rfl
    · refine ⟨.int (nI (sdone (plG (kS (aK A)) (kU (aK A)).2 (kU (aK A)).1))), A, ho, fun I L Q pc hq => ?_, fun I L Q pm hq => ?_⟩
      · obtain ⟨⟨hp, lp, pp, ep⟩, hk, hi0, hi1, ht, hb, hf, hr, hh⟩ := id pc
        refine Zm.go [some (.ref _), some (.int _), none] vl_95 rfl ?_
        refine Zp.iload_n k_95_0 rfl ?_
        refine Zp.iconst (nI 0) k_95_1 (by decide) ?_
        refine Zp.iconst (nI 4) k_95_2 (by decide) ?_
        refine Zp.calls3I vs_129 k_95_3 (Nat.le_of_ble_eq_true rfl) (Nat.le_of_ble_eq_true rfl) (c_isWithin (nI_toInt (by omega)) (nI_toInt (by omega)) (nI_toInt (by omega)) ⟨_, rfl, ?_⟩)
        refine Zp.if_neB k_95_6 (fun c_6 => ?_) (fun c_6 => absurd c_6 (by omega))
        refine Zp.aload_n k_95_11 rfl ?_
        refine Zp.getR k_95_12 rfl (zlt rfl) m_0 r_0_5 ?_
        refine Zp.aload_n k_95_15 rfl ?_
        refine Zp.getR k_95_16 rfl (zlt rfl) m_0 r_0_0 ?_
        refine Zp.getR k_95_19 rfl (zlt rfl) m_1 r_1_0 ?_
        refine Zp.callv1V v_55 k_95_22 m_31 (Nat.le_of_ble_eq_true rfl) (Nat.le_of_ble_eq_true rfl) (c_Soup_copyFrom sa_31 sa_2 (by omega) hp so (fun I2 hs2 f2 => ⟨rfl, ?_⟩))
        refine Zp.aload_n k_95_25 rfl ?_
        refine Zp.getR k_95_26 rfl (zlt rfl) m_0 r_0_0 ?_
        refine Zp.getR k_95_29 rfl (zlt rfl) m_1 r_1_2 ?_
        refine Zp.aload_n k_95_32 rfl ?_
        refine Zp.getR k_95_33 rfl (zlt rfl) m_0 r_0_5 ?_
        refine Zp.callv1I v_12 k_95_36 m_9 (Nat.le_of_ble_eq_true rfl) (Nat.le_of_ble_eq_true rfl) (c_stirAll pa_9 (pp.fr (f2 _ (by decide) (by decide) (by decide)) (f2 _ (by decide) (by decide) (by decide))) po sa_31 hs2 so (by omega) (by omega) (fun I3 hs3 f3 => ⟨_, rfl, ?_⟩))
        refine Zp.istore_n [some (.ref _), some (.int _), some (.int _)] k_95_39 (Nat.lt_of_lt_of_eq (zlt rfl : 2 < 3) vl_95.symm) rfl ?_
        refine Zp.iload_n k_95_40 rfl ?_
        refine Zp.tabEq 0 0 72 k_95_41 (by decide) (by decide) (by decide) rfl (by decide) (fun _ => ?_) (fun n => absurd rfl n)
        refine Zp.aload_n k_95_72 rfl ?_
        refine Zp.getR k_95_73 rfl (zlt rfl) m_0 r_0_5 ?_
        refine Zp.getV k_95_76 rfl (zlt rfl) m_31 hs3.2.2.2.2.1 ?_
        refine Zp.iret _ k_95_79 vr_95 rfl ?_
        have f4 : ∀ q, q ≠ 31 → q ≠ 32 → q ≠ 33 → I3 q = I q := fun q a1 a2 a3 => (f3 q a1 a3).trans (f2 q a1 a2 a3)
        have pc3 := pc.try_ (fun q h => f4 q (by omega) (by omega) (by omega))
        first | exact hq I3 pc3 (fun q h => f4 q (by omega) (by omega) (by omega)) | exact zqN (hq I3 pc3 (fun q h => f4 q (by omega) (by omega) (by omega))) (by omega)
      · obtain ⟨m3, ⟨mp, xp⟩, m4, ms1, ms2, ms3, mk0, mk1, mi0, mi1, mt, mb, mf, mr, mh⟩ := id pm
        refine Zm.go [some (.ref _), some (.int _)] vl_189 rfl ?_
        refine Zp.iload_n k_189_0 rfl ?_
        refine Zp.i2l k_189_1 ?_
        refine Zp.lconst (lN 0) k_189_2 (by decide) ?_
        refine Zp.ldc2 (lN 4) k_189_3 (by decide) ?_
        refine Zp.calls3I vs_131 k_189_6 (Nat.le_of_ble_eq_true rfl) (Nat.le_of_ble_eq_true rfl) (c_in (zi2n (by omega)) (lN_z (by decide)) (lN_z (by decide)) ⟨_, rfl, ?_⟩)
        refine Zp.if_neB k_189_9 (fun c_9 => ?_) (fun c_9 => absurd c_9 (by omega))
        refine Zp.aload_n k_189_14 rfl ?_
        refine Zp.callv0V v_159 k_189_15 m_93 (Nat.le_of_ble_eq_true rfl) (Nat.le_of_ble_eq_true rfl) (c_goM pm ho (fun I2 pm2 mq xq s2 => ⟨rfl, ?_⟩))
        refine Zp.aload_n k_189_18 rfl ?_
        refine Zp.callv0V v_171 k_189_19 m_93 (Nat.le_of_ble_eq_true rfl) (Nat.le_of_ble_eq_true rfl) (c_plansGoM mq so xq po (by omega) (fun I3 mp3 h25 g1 g2 g3 => ⟨rfl, ?_⟩))
        refine Zp.iload_n k_189_22 rfl ?_
        refine Zp.if_neN k_189_23 (by omega) (fun c => absurd c (by decide)) (fun _ => ?_)
        refine Zp.aload_n k_189_26 rfl ?_
        refine Zp.getR k_189_27 rfl (zlt rfl) m_93 r_93_1 ?_
        refine Zp.bipush (nI 33) k_189_30 (by decide) ?_
        refine Zp.iald _ k_189_32 m_95 rfl (by omega) (zlt rfl) mp3.2.2.2.2.2.1 ?_
        refine Zp.goto k_189_33 ?_
        refine Zp.iret _ k_189_82 vr_189 rfl ?_
        first | exact hq I3 _ (pm2.fr (g2 3 (by decide)) (g2 4 (by decide)) (g2 18 (by decide)) (g2 23 (by decide)) (g2 34 (by decide)) (fun q h => g1 q (by omega) (by omega))) (fun q h => (g1 q (by omega) (by omega)).trans (s2 q (by omega))) | (exfalso; omega)
    · refine ⟨.int (nI (sstep (plG (kS (aK A)) (kU (aK A)).2 (kU (aK A)).1))), A, ho, fun I L Q pc hq => ?_, fun I L Q pm hq => ?_⟩
      · obtain ⟨⟨hp, lp, pp, ep⟩, hk, hi0, hi1, ht, hb, hf, hr, hh⟩ := id pc
        refine Zm.go [some (.ref _), some (.int _), none] vl_95 rfl ?_
        refine Zp.iload_n k_95_0 rfl ?_
        refine Zp.iconst (nI 0) k_95_1 (by decide) ?_
        refine Zp.iconst (nI 4) k_95_2 (by decide) ?_
        refine Zp.calls3I vs_129 k_95_3 (Nat.le_of_ble_eq_true rfl) (Nat.le_of_ble_eq_true rfl) (c_isWithin (nI_toInt (by omega)) (nI_toInt (by omega)) (nI_toInt (by omega)) ⟨_, rfl, ?_⟩)
        refine Zp.if_neB k_95_6 (fun c_6 => ?_) (fun c_6 => absurd c_6 (by omega))
        refine Zp.aload_n k_95_11 rfl ?_
        refine Zp.getR k_95_12 rfl (zlt rfl) m_0 r_0_5 ?_
        refine Zp.aload_n k_95_15 rfl ?_
        refine Zp.getR k_95_16 rfl (zlt rfl) m_0 r_0_0 ?_
        refine Zp.getR k_95_19 rfl (zlt rfl) m_1 r_1_0 ?_
        refine Zp.callv1V v_55 k_95_22 m_31 (Nat.le_of_ble_eq_true rfl) (Nat.le_of_ble_eq_true rfl) (c_Soup_copyFrom sa_31 sa_2 (by omega) hp so (fun I2 hs2 f2 => ⟨rfl, ?_⟩))
        refine Zp.aload_n k_95_25 rfl ?_
        refine Zp.getR k_95_26 rfl (zlt rfl) m_0 r_0_0 ?_
        refine Zp.getR k_95_29 rfl (zlt rfl) m_1 r_1_2 ?_
        refine Zp.aload_n k_95_32 rfl ?_
        refine Zp.getR k_95_33 rfl (zlt rfl) m_0 r_0_5 ?_
        refine Zp.callv1I v_12 k_95_36 m_9 (Nat.le_of_ble_eq_true rfl) (Nat.le_of_ble_eq_true rfl) (c_stirAll pa_9 (pp.fr (f2 _ (by decide) (by decide) (by decide)) (f2 _ (by decide) (by decide) (by decide))) po sa_31 hs2 so (by omega) (by omega) (fun I3 hs3 f3 => ⟨_, rfl, ?_⟩))
        refine Zp.istore_n [some (.ref _), some (.int _), some (.int _)] k_95_39 (Nat.lt_of_lt_of_eq (zlt rfl : 2 < 3) vl_95.symm) rfl ?_
        refine Zp.iload_n k_95_40 rfl ?_
        refine Zp.tabEq 1 1 80 k_95_41 (by decide) (by decide) (by decide) rfl (by decide) (fun _ => ?_) (fun n => absurd rfl n)
        refine Zp.aload_n k_95_80 rfl ?_
        refine Zp.getR k_95_81 rfl (zlt rfl) m_0 r_0_5 ?_
        refine Zp.getV k_95_84 rfl (zlt rfl) m_31 hs3.2.2.2.1 ?_
        refine Zp.iret _ k_95_87 vr_95 rfl ?_
        have f4 : ∀ q, q ≠ 31 → q ≠ 32 → q ≠ 33 → I3 q = I q := fun q a1 a2 a3 => (f3 q a1 a3).trans (f2 q a1 a2 a3)
        have pc3 := pc.try_ (fun q h => f4 q (by omega) (by omega) (by omega))
        first | exact hq I3 pc3 (fun q h => f4 q (by omega) (by omega) (by omega)) | exact zqN (hq I3 pc3 (fun q h => f4 q (by omega) (by omega) (by omega))) (by omega)
      · obtain ⟨m3, ⟨mp, xp⟩, m4, ms1, ms2, ms3, mk0, mk1, mi0, mi1, mt, mb, mf, mr, mh⟩ := id pm
        refine Zm.go [some (.ref _), some (.int _)] vl_189 rfl ?_
        refine Zp.iload_n k_189_0 rfl ?_
        refine Zp.i2l k_189_1 ?_
        refine Zp.lconst (lN 0) k_189_2 (by decide) ?_
        refine Zp.ldc2 (lN 4) k_189_3 (by decide) ?_
        refine Zp.calls3I vs_131 k_189_6 (Nat.le_of_ble_eq_true rfl) (Nat.le_of_ble_eq_true rfl) (c_in (zi2n (by omega)) (lN_z (by decide)) (lN_z (by decide)) ⟨_, rfl, ?_⟩)
        refine Zp.if_neB k_189_9 (fun c_9 => ?_) (fun c_9 => absurd c_9 (by omega))
        refine Zp.aload_n k_189_14 rfl ?_
        refine Zp.callv0V v_159 k_189_15 m_93 (Nat.le_of_ble_eq_true rfl) (Nat.le_of_ble_eq_true rfl) (c_goM pm ho (fun I2 pm2 mq xq s2 => ⟨rfl, ?_⟩))
        refine Zp.aload_n k_189_18 rfl ?_
        refine Zp.callv0V v_171 k_189_19 m_93 (Nat.le_of_ble_eq_true rfl) (Nat.le_of_ble_eq_true rfl) (c_plansGoM mq so xq po (by omega) (fun I3 mp3 h25 g1 g2 g3 => ⟨rfl, ?_⟩))
        refine Zp.iload_n k_189_22 rfl ?_
        refine Zp.if_neN k_189_23 (by omega) (fun _ => ?_) (fun c => absurd c (by decide))
        refine Zp.iload_n k_189_36 rfl ?_
        refine Zp.iconst (nI 1) k_189_37 (by decide) ?_
        refine Zp.icmp_neN k_189_38 (by omega) (by omega) (fun c_38 => ?_) (fun c_38 => ?_)
        · refine Zp.iload_n k_189_51 rfl ?_
          refine Zp.iconst (nI 2) k_189_52 (by decide) ?_
          refine Zp.icmp_neN k_189_53 (by omega) (by omega) (fun c_53 => ?_) (fun c_53 => ?_)
          · refine Zp.iload_n k_189_66 rfl ?_
            refine Zp.iconst (nI 3) k_189_67 (by decide) ?_
            refine Zp.icmp_neN k_189_68 (by omega) (by omega) (fun c_68 => ?_) (fun c_68 => ?_)
            · refine Zp.aload_n k_189_78 rfl ?_
              refine Zp.getV k_189_79 rfl (zlt rfl) m_93 h25 ?_
              refine Zp.iret _ k_189_82 vr_189 rfl ?_
              first | exact hq I3 _ (pm2.fr (g2 3 (by decide)) (g2 4 (by decide)) (g2 18 (by decide)) (g2 23 (by decide)) (g2 34 (by decide)) (fun q h => g1 q (by omega) (by omega))) (fun q h => (g1 q (by omega) (by omega)).trans (s2 q (by omega))) | (exfalso; omega)
            · refine Zp.aload_n k_189_71 rfl ?_
              refine Zp.callv0I v_170 k_189_72 m_93 (Nat.le_of_ble_eq_true rfl) (Nat.le_of_ble_eq_true rfl) (c_allHateM mp3 go ⟨_, rfl, ?_⟩)
              refine Zp.goto k_189_75 ?_
              refine Zp.iret _ k_189_82 vr_189 rfl ?_
              first | exact hq I3 _ (pm2.fr (g2 3 (by decide)) (g2 4 (by decide)) (g2 18 (by decide)) (g2 23 (by decide)) (g2 34 (by decide)) (fun q h => g1 q (by omega) (by omega))) (fun q h => (g1 q (by omega) (by omega)).trans (s2 q (by omega))) | (exfalso; omega)
          · refine Zp.aload_n k_189_56 rfl ?_
            refine Zp.getR k_189_57 rfl (zlt rfl) m_93 r_93_1 ?_
            refine Zp.bipush (nI 34) k_189_60 (by decide) ?_
            refine Zp.iald _ k_189_62 m_95 rfl (by omega) (zlt rfl) mp3.2.2.2.2.2.2 ?_
            refine Zp.goto k_189_63 ?_
            refine Zp.iret _ k_189_82 vr_189 rfl ?_
            first | exact hq I3 _ (pm2.fr (g2 3 (by decide)) (g2 4 (by decide)) (g2 18 (by decide)) (g2 23 (by decide)) (g2 34 (by decide)) (fun q h => g1 q (by omega) (by omega))) (fun q h => (g1 q (by omega) (by omega)).trans (s2 q (by omega))) | (exfalso; omega)
        · refine Zp.aload_n k_189_41 rfl ?_
          refine Zp.getR k_189_42 rfl (zlt rfl) m_93 r_93_1 ?_
          refine Zp.bipush (nI 32) k_189_45 (by decide) ?_
          refine Zp.iald _ k_189_47 m_95 rfl (by omega) (zlt rfl) mp3.2.2.2.2.1 ?_
          refine Zp.goto k_189_48 ?_
          refine Zp.iret _ k_189_82 vr_189 rfl ?_
          first | exact hq I3 _ (pm2.fr (g2 3 (by decide)) (g2 4 (by decide)) (g2 18 (by decide)) (g2 23 (by decide)) (g2 34 (by decide)) (fun q h => g1 q (by omega) (by omega))) (fun q h => (g1 q (by omega) (by omega)).trans (s2 q (by omega))) | (exfalso; omega)
    · refine ⟨.int (nI (sset (plG (kS (aK A)) (kU (aK A)).2 (kU (aK A)).1))), A, ho, fun I L Q pc hq => ?_, fun I L Q pm hq => ?_⟩
      · obtain ⟨⟨hp, lp, pp, ep⟩, hk, hi0, hi1, ht, hb, hf, hr, hh⟩ := id pc
        refine Zm.go [some (.ref _), some (.int _), none] vl_95 rfl ?_
        refine Zp.iload_n k_95_0 rfl ?_
        refine Zp.iconst (nI 0) k_95_1 (by decide) ?_
        refine Zp.iconst (nI 4) k_95_2 (by decide) ?_
        refine Zp.calls3I vs_129 k_95_3 (Nat.le_of_ble_eq_true rfl) (Nat.le_of_ble_eq_true rfl) (c_isWithin (nI_toInt (by omega)) (nI_toInt (by omega)) (nI_toInt (by omega)) ⟨_, rfl, ?_⟩)
        refine Zp.if_neB k_95_6 (fun c_6 => ?_) (fun c_6 => absurd c_6 (by omega))
        refine Zp.aload_n k_95_11 rfl ?_
        refine Zp.getR k_95_12 rfl (zlt rfl) m_0 r_0_5 ?_
        refine Zp.aload_n k_95_15 rfl ?_
        refine Zp.getR k_95_16 rfl (zlt rfl) m_0 r_0_0 ?_
        refine Zp.getR k_95_19 rfl (zlt rfl) m_1 r_1_0 ?_
        refine Zp.callv1V v_55 k_95_22 m_31 (Nat.le_of_ble_eq_true rfl) (Nat.le_of_ble_eq_true rfl) (c_Soup_copyFrom sa_31 sa_2 (by omega) hp so (fun I2 hs2 f2 => ⟨rfl, ?_⟩))
        refine Zp.aload_n k_95_25 rfl ?_
        refine Zp.getR k_95_26 rfl (zlt rfl) m_0 r_0_0 ?_
        refine Zp.getR k_95_29 rfl (zlt rfl) m_1 r_1_2 ?_
        refine Zp.aload_n k_95_32 rfl ?_
        refine Zp.getR k_95_33 rfl (zlt rfl) m_0 r_0_5 ?_
        refine Zp.callv1I v_12 k_95_36 m_9 (Nat.le_of_ble_eq_true rfl) (Nat.le_of_ble_eq_true rfl) (c_stirAll pa_9 (pp.fr (f2 _ (by decide) (by decide) (by decide)) (f2 _ (by decide) (by decide) (by decide))) po sa_31 hs2 so (by omega) (by omega) (fun I3 hs3 f3 => ⟨_, rfl, ?_⟩))
        refine Zp.istore_n [some (.ref _), some (.int _), some (.int _)] k_95_39 (Nat.lt_of_lt_of_eq (zlt rfl : 2 < 3) vl_95.symm) rfl ?_
        refine Zp.iload_n k_95_40 rfl ?_
        refine Zp.tabEq 2 2 88 k_95_41 (by decide) (by decide) (by decide) rfl (by decide) (fun _ => ?_) (fun n => absurd rfl n)
        refine Zp.aload_n k_95_88 rfl ?_
        refine Zp.getR k_95_89 rfl (zlt rfl) m_0 r_0_5 ?_
        refine Zp.getV k_95_92 rfl (zlt rfl) m_31 hs3.2.2.2.2.2.1 ?_
        refine Zp.if_eqN k_95_95 (by omega) (fun c_95 => ?_) (fun c_95 => ?_)
        · refine Zp.iconst (nI 0) k_95_102 (by decide) ?_
          refine Zp.iret _ k_95_103 vr_95 rfl ?_
          have f4 : ∀ q, q ≠ 31 → q ≠ 32 → q ≠ 33 → I3 q = I q := fun q a1 a2 a3 => (f3 q a1 a3).trans (f2 q a1 a2 a3)
          have pc3 := pc.try_ (fun q h => f4 q (by omega) (by omega) (by omega))
          first | exact hq I3 pc3 (fun q h => f4 q (by omega) (by omega) (by omega)) | exact zqN (hq I3 pc3 (fun q h => f4 q (by omega) (by omega) (by omega))) (by omega)
        · refine Zp.iconst (nI 1) k_95_98 (by decide) ?_
          refine Zp.goto k_95_99 ?_
          refine Zp.iret _ k_95_103 vr_95 rfl ?_
          have f4 : ∀ q, q ≠ 31 → q ≠ 32 → q ≠ 33 → I3 q = I q := fun q a1 a2 a3 => (f3 q a1 a3).trans (f2 q a1 a2 a3)
          have pc3 := pc.try_ (fun q h => f4 q (by omega) (by omega) (by omega))
          first | exact hq I3 pc3 (fun q h => f4 q (by omega) (by omega) (by omega)) | exact zqN (hq I3 pc3 (fun q h => f4 q (by omega) (by omega) (by omega))) (by omega)
      · obtain ⟨m3, ⟨mp, xp⟩, m4, ms1, ms2, ms3, mk0, mk1, mi0, mi1, mt, mb, mf, mr, mh⟩ := id pm
        refine Zm.go [some (.ref _), some (.int _)] vl_189 rfl ?_
        refine Zp.iload_n k_189_0 rfl ?_
        refine Zp.i2l k_189_1 ?_
        refine Zp.lconst (lN 0) k_189_2 (by decide) ?_
        refine Zp.ldc2 (lN 4) k_189_3 (by decide) ?_
        refine Zp.calls3I vs_131 k_189_6 (Nat.le_of_ble_eq_true rfl) (Nat.le_of_ble_eq_true rfl) (c_in (zi2n (by omega)) (lN_z (by decide)) (lN_z (by decide)) ⟨_, rfl, ?_⟩)
        refine Zp.if_neB k_189_9 (fun c_9 => ?_) (fun c_9 => absurd c_9 (by omega))
        refine Zp.aload_n k_189_14 rfl ?_
        refine Zp.callv0V v_159 k_189_15 m_93 (Nat.le_of_ble_eq_true rfl) (Nat.le_of_ble_eq_true rfl) (c_goM pm ho (fun I2 pm2 mq xq s2 => ⟨rfl, ?_⟩))
        refine Zp.aload_n k_189_18 rfl ?_
        refine Zp.callv0V v_171 k_189_19 m_93 (Nat.le_of_ble_eq_true rfl) (Nat.le_of_ble_eq_true rfl) (c_plansGoM mq so xq po (by omega) (fun I3 mp3 h25 g1 g2 g3 => ⟨rfl, ?_⟩))
        refine Zp.iload_n k_189_22 rfl ?_
        refine Zp.if_neN k_189_23 (by omega) (fun _ => ?_) (fun c => absurd c (by decide))
        refine Zp.iload_n k_189_36 rfl ?_
        refine Zp.iconst (nI 1) k_189_37 (by decide) ?_
        refine Zp.icmp_neN k_189_38 (by omega) (by omega) (fun c_38 => ?_) (fun c_38 => ?_)
        · refine Zp.iload_n k_189_51 rfl ?_
          refine Zp.iconst (nI 2) k_189_52 (by decide) ?_
          refine Zp.icmp_neN k_189_53 (by omega) (by omega) (fun c_53 => ?_) (fun c_53 => ?_)
          · refine Zp.iload_n k_189_66 rfl ?_
            refine Zp.iconst (nI 3) k_189_67 (by decide) ?_
            refine Zp.icmp_neN k_189_68 (by omega) (by omega) (fun c_68 => ?_) (fun c_68 => ?_)
            · refine Zp.aload_n k_189_78 rfl ?_
              refine Zp.getV k_189_79 rfl (zlt rfl) m_93 h25 ?_
              refine Zp.iret _ k_189_82 vr_189 rfl ?_
              first | exact hq I3 _ (pm2.fr (g2 3 (by decide)) (g2 4 (by decide)) (g2 18 (by decide)) (g2 23 (by decide)) (g2 34 (by decide)) (fun q h => g1 q (by omega) (by omega))) (fun q h => (g1 q (by omega) (by omega)).trans (s2 q (by omega))) | (exfalso; omega)
            · refine Zp.aload_n k_189_71 rfl ?_
              refine Zp.callv0I v_170 k_189_72 m_93 (Nat.le_of_ble_eq_true rfl) (Nat.le_of_ble_eq_true rfl) (c_allHateM mp3 go ⟨_, rfl, ?_⟩)
              refine Zp.goto k_189_75 ?_
              refine Zp.iret _ k_189_82 vr_189 rfl ?_
              first | exact hq I3 _ (pm2.fr (g2 3 (by decide)) (g2 4 (by decide)) (g2 18 (by decide)) (g2 23 (by decide)) (g2 34 (by decide)) (fun q h => g1 q (by omega) (by omega))) (fun q h => (g1 q (by omega) (by omega)).trans (s2 q (by omega))) | (exfalso; omega)
          · refine Zp.aload_n k_189_56 rfl ?_
            refine Zp.getR k_189_57 rfl (zlt rfl) m_93 r_93_1 ?_
            refine Zp.bipush (nI 34) k_189_60 (by decide) ?_
            refine Zp.iald _ k_189_62 m_95 rfl (by omega) (zlt rfl) mp3.2.2.2.2.2.2 ?_
            refine Zp.goto k_189_63 ?_
            refine Zp.iret _ k_189_82 vr_189 rfl ?_
            first | exact hq I3 _ (pm2.fr (g2 3 (by decide)) (g2 4 (by decide)) (g2 18 (by decide)) (g2 23 (by decide)) (g2 34 (by decide)) (fun q h => g1 q (by omega) (by omega))) (fun q h => (g1 q (by omega) (by omega)).trans (s2 q (by omega))) | (exfalso; omega)
        · refine Zp.aload_n k_189_41 rfl ?_
          refine Zp.getR k_189_42 rfl (zlt rfl) m_93 r_93_1 ?_
          refine Zp.bipush (nI 32) k_189_45 (by decide) ?_
          refine Zp.iald _ k_189_47 m_95 rfl (by omega) (zlt rfl) mp3.2.2.2.2.1 ?_
          refine Zp.goto k_189_48 ?_
          refine Zp.iret _ k_189_82 vr_189 rfl ?_
          first | exact hq I3 _ (pm2.fr (g2 3 (by decide)) (g2 4 (by decide)) (g2 18 (by decide)) (g2 23 (by decide)) (g2 34 (by decide)) (fun q h => g1 q (by omega) (by omega))) (fun q h => (g1 q (by omega) (by omega)).trans (s2 q (by omega))) | (exfalso; omega)
    · refine ⟨.int (nI (sm (sht (plG (kS (aK A)) (kU (aK A)).2 (kU (aK A)).1)) 25)), A, ho, fun I L Q pc hq => ?_, fun I L Q pm hq => ?_⟩
      · obtain ⟨⟨hp, lp, pp, ep⟩, hk, hi0, hi1, ht, hb, hf, hr, hh⟩ := id pc
        refine Zm.go [some (.ref _), some (.int _), none] vl_95 rfl ?_
        refine Zp.iload_n k_95_0 rfl ?_
        refine Zp.iconst (nI 0) k_95_1 (by decide) ?_
        refine Zp.iconst (nI 4) k_95_2 (by decide) ?_
        refine Zp.calls3I vs_129 k_95_3 (Nat.le_of_ble_eq_true rfl) (Nat.le_of_ble_eq_true rfl) (c_isWithin (nI_toInt (by omega)) (nI_toInt (by omega)) (nI_toInt (by omega)) ⟨_, rfl, ?_⟩)
        refine Zp.if_neB k_95_6 (fun c_6 => ?_) (fun c_6 => absurd c_6 (by omega))
        refine Zp.aload_n k_95_11 rfl ?_
        refine Zp.getR k_95_12 rfl (zlt rfl) m_0 r_0_5 ?_
        refine Zp.aload_n k_95_15 rfl ?_
        refine Zp.getR k_95_16 rfl (zlt rfl) m_0 r_0_0 ?_
        refine Zp.getR k_95_19 rfl (zlt rfl) m_1 r_1_0 ?_
        refine Zp.callv1V v_55 k_95_22 m_31 (Nat.le_of_ble_eq_true rfl) (Nat.le_of_ble_eq_true rfl) (c_Soup_copyFrom sa_31 sa_2 (by omega) hp so (fun I2 hs2 f2 => ⟨rfl, ?_⟩))
        refine Zp.aload_n k_95_25 rfl ?_
        refine Zp.getR k_95_26 rfl (zlt rfl) m_0 r_0_0 ?_
        refine Zp.getR k_95_29 rfl (zlt rfl) m_1 r_1_2 ?_
        refine Zp.aload_n k_95_32 rfl ?_
        refine Zp.getR k_95_33 rfl (zlt rfl) m_0 r_0_5 ?_
        refine Zp.callv1I v_12 k_95_36 m_9 (Nat.le_of_ble_eq_true rfl) (Nat.le_of_ble_eq_true rfl) (c_stirAll pa_9 (pp.fr (f2 _ (by decide) (by decide) (by decide)) (f2 _ (by decide) (by decide) (by decide))) po sa_31 hs2 so (by omega) (by omega) (fun I3 hs3 f3 => ⟨_, rfl, ?_⟩))
        refine Zp.istore_n [some (.ref _), some (.int _), some (.int _)] k_95_39 (Nat.lt_of_lt_of_eq (zlt rfl : 2 < 3) vl_95.symm) rfl ?_
        refine Zp.iload_n k_95_40 rfl ?_
        refine Zp.tabEq 3 3 104 k_95_41 (by decide) (by decide) (by decide) rfl (by decide) (fun _ => ?_) (fun n => absurd rfl n)
        refine Zp.aload_n k_95_104 rfl ?_
        refine Zp.getR k_95_105 rfl (zlt rfl) m_0 r_0_5 ?_
        refine Zp.callv0I v_67 k_95_108 m_31 (Nat.le_of_ble_eq_true rfl) (Nat.le_of_ble_eq_true rfl) (c_allHatred sa_31 hs3 go ⟨_, rfl, ?_⟩)
        refine Zp.iret _ k_95_111 vr_95 rfl ?_
        have f4 : ∀ q, q ≠ 31 → q ≠ 32 → q ≠ 33 → I3 q = I q := fun q a1 a2 a3 => (f3 q a1 a3).trans (f2 q a1 a2 a3)
        have pc3 := pc.try_ (fun q h => f4 q (by omega) (by omega) (by omega))
        first | exact hq I3 pc3 (fun q h => f4 q (by omega) (by omega) (by omega)) | exact zqN (hq I3 pc3 (fun q h => f4 q (by omega) (by omega) (by omega))) (by omega)
      · obtain ⟨m3, ⟨mp, xp⟩, m4, ms1, ms2, ms3, mk0, mk1, mi0, mi1, mt, mb, mf, mr, mh⟩ := id pm
        refine Zm.go [some (.ref _), some (.int _)] vl_189 rfl ?_
        refine Zp.iload_n k_189_0 rfl ?_
        refine Zp.i2l k_189_1 ?_
        refine Zp.lconst (lN 0) k_189_2 (by decide) ?_
        refine Zp.ldc2 (lN 4) k_189_3 (by decide) ?_
        refine Zp.calls3I vs_131 k_189_6 (Nat.le_of_ble_eq_true rfl) (Nat.le_of_ble_eq_true rfl) (c_in (zi2n (by omega)) (lN_z (by decide)) (lN_z (by decide)) ⟨_, rfl, ?_⟩)
        refine Zp.if_neB k_189_9 (fun c_9 => ?_) (fun c_9 => absurd c_9 (by omega))
        refine Zp.aload_n k_189_14 rfl ?_
        refine Zp.callv0V v_159 k_189_15 m_93 (Nat.le_of_ble_eq_true rfl) (Nat.le_of_ble_eq_true rfl) (c_goM pm ho (fun I2 pm2 mq xq s2 => ⟨rfl, ?_⟩))
        refine Zp.aload_n k_189_18 rfl ?_
        refine Zp.callv0V v_171 k_189_19 m_93 (Nat.le_of_ble_eq_true rfl) (Nat.le_of_ble_eq_true rfl) (c_plansGoM mq so xq po (by omega) (fun I3 mp3 h25 g1 g2 g3 => ⟨rfl, ?_⟩))
        refine Zp.iload_n k_189_22 rfl ?_
        refine Zp.if_neN k_189_23 (by omega) (fun _ => ?_) (fun c => absurd c (by decide))
        refine Zp.iload_n k_189_36 rfl ?_
        refine Zp.iconst (nI 1) k_189_37 (by decide) ?_
        refine Zp.icmp_neN k_189_38 (by omega) (by omega) (fun c_38 => ?_) (fun c_38 => ?_)
        · refine Zp.iload_n k_189_51 rfl ?_
          refine Zp.iconst (nI 2) k_189_52 (by decide) ?_
          refine Zp.icmp_neN k_189_53 (by omega) (by omega) (fun c_53 => ?_) (fun c_53 => ?_)
          · refine Zp.iload_n k_189_66 rfl ?_
            refine Zp.iconst (nI 3) k_189_67 (by decide) ?_
            refine Zp.icmp_neN k_189_68 (by omega) (by omega) (fun c_68 => ?_) (fun c_68 => ?_)
            · refine Zp.aload_n k_189_78 rfl ?_
              refine Zp.getV k_189_79 rfl (zlt rfl) m_93 h25 ?_
              refine Zp.iret _ k_189_82 vr_189 rfl ?_
              first | exact hq I3 _ (pm2.fr (g2 3 (by decide)) (g2 4 (by decide)) (g2 18 (by decide)) (g2 23 (by decide)) (g2 34 (by decide)) (fun q h => g1 q (by omega) (by omega))) (fun q h => (g1 q (by omega) (by omega)).trans (s2 q (by omega))) | (exfalso; omega)
            · refine Zp.aload_n k_189_71 rfl ?_
              refine Zp.callv0I v_170 k_189_72 m_93 (Nat.le_of_ble_eq_true rfl) (Nat.le_of_ble_eq_true rfl) (c_allHateM mp3 go ⟨_, rfl, ?_⟩)
              refine Zp.goto k_189_75 ?_
              refine Zp.iret _ k_189_82 vr_189 rfl ?_
              first | exact hq I3 _ (pm2.fr (g2 3 (by decide)) (g2 4 (by decide)) (g2 18 (by decide)) (g2 23 (by decide)) (g2 34 (by decide)) (fun q h => g1 q (by omega) (by omega))) (fun q h => (g1 q (by omega) (by omega)).trans (s2 q (by omega))) | (exfalso; omega)
          · refine Zp.aload_n k_189_56 rfl ?_
            refine Zp.getR k_189_57 rfl (zlt rfl) m_93 r_93_1 ?_
            refine Zp.bipush (nI 34) k_189_60 (by decide) ?_
            refine Zp.iald _ k_189_62 m_95 rfl (by omega) (zlt rfl) mp3.2.2.2.2.2.2 ?_
            refine Zp.goto k_189_63 ?_
            refine Zp.iret _ k_189_82 vr_189 rfl ?_
            first | exact hq I3 _ (pm2.fr (g2 3 (by decide)) (g2 4 (by decide)) (g2 18 (by decide)) (g2 23 (by decide)) (g2 34 (by decide)) (fun q h => g1 q (by omega) (by omega))) (fun q h => (g1 q (by omega) (by omega)).trans (s2 q (by omega))) | (exfalso; omega)
        · refine Zp.aload_n k_189_41 rfl ?_
          refine Zp.getR k_189_42 rfl (zlt rfl) m_93 r_93_1 ?_
          refine Zp.bipush (nI 32) k_189_45 (by decide) ?_
          refine Zp.iald _ k_189_47 m_95 rfl (by omega) (zlt rfl) mp3.2.2.2.2.1 ?_
          refine Zp.goto k_189_48 ?_
          refine Zp.iret _ k_189_82 vr_189 rfl ?_
          first | exact hq I3 _ (pm2.fr (g2 3 (by decide)) (g2 4 (by decide)) (g2 18 (by decide)) (g2 23 (by decide)) (g2 34 (by decide)) (fun q h => g1 q (by omega) (by omega))) (fun q h => (g1 q (by omega) (by omega)).trans (s2 q (by omega))) | (exfalso; omega)
    · refine ⟨.int (plF (kS (aK A)) (kU (aK A)).2 (kU (aK A)).1), A, ho, fun I L Q pc hq => ?_, fun I L Q pm hq => ?_⟩
      · obtain ⟨⟨hp, lp, pp, ep⟩, hk, hi0, hi1, ht, hb, hf, hr, hh⟩ := id pc
        refine Zm.go [some (.ref _), some (.int _), none] vl_95 rfl ?_
        refine Zp.iload_n k_95_0 rfl ?_
        refine Zp.iconst (nI 0) k_95_1 (by decide) ?_
        refine Zp.iconst (nI 4) k_95_2 (by decide) ?_
        refine Zp.calls3I vs_129 k_95_3 (Nat.le_of_ble_eq_true rfl) (Nat.le_of_ble_eq_true rfl) (c_isWithin (nI_toInt (by omega)) (nI_toInt (by omega)) (nI_toInt (by omega)) ⟨_, rfl, ?_⟩)
        refine Zp.if_neB k_95_6 (fun c_6 => ?_) (fun c_6 => absurd c_6 (by omega))
        refine Zp.aload_n k_95_11 rfl ?_
        refine Zp.getR k_95_12 rfl (zlt rfl) m_0 r_0_5 ?_
        refine Zp.aload_n k_95_15 rfl ?_
        refine Zp.getR k_95_16 rfl (zlt rfl) m_0 r_0_0 ?_
        refine Zp.getR k_95_19 rfl (zlt rfl) m_1 r_1_0 ?_
        refine Zp.callv1V v_55 k_95_22 m_31 (Nat.le_of_ble_eq_true rfl) (Nat.le_of_ble_eq_true rfl) (c_Soup_copyFrom sa_31 sa_2 (by omega) hp so (fun I2 hs2 f2 => ⟨rfl, ?_⟩))
        refine Zp.aload_n k_95_25 rfl ?_
        refine Zp.getR k_95_26 rfl (zlt rfl) m_0 r_0_0 ?_
        refine Zp.getR k_95_29 rfl (zlt rfl) m_1 r_1_2 ?_
        refine Zp.aload_n k_95_32 rfl ?_
        refine Zp.getR k_95_33 rfl (zlt rfl) m_0 r_0_5 ?_
        refine Zp.callv1I v_12 k_95_36 m_9 (Nat.le_of_ble_eq_true rfl) (Nat.le_of_ble_eq_true rfl) (c_stirAll pa_9 (pp.fr (f2 _ (by decide) (by decide) (by decide)) (f2 _ (by decide) (by decide) (by decide))) po sa_31 hs2 so (by omega) (by omega) (fun I3 hs3 f3 => ⟨_, rfl, ?_⟩))
        refine Zp.istore_n [some (.ref _), some (.int _), some (.int _)] k_95_39 (Nat.lt_of_lt_of_eq (zlt rfl : 2 < 3) vl_95.symm) rfl ?_
        refine Zp.iload_n k_95_40 rfl ?_
        refine Zp.tabNo 4 112 k_95_41 (by decide) (by omega) (by decide) ?_
        refine Zp.iload_n k_95_112 rfl ?_
        refine Zp.iret _ k_95_113 vr_95 rfl ?_
        have f4 : ∀ q, q ≠ 31 → q ≠ 32 → q ≠ 33 → I3 q = I q := fun q a1 a2 a3 => (f3 q a1 a3).trans (f2 q a1 a2 a3)
        have pc3 := pc.try_ (fun q h => f4 q (by omega) (by omega) (by omega))
        first | exact hq I3 pc3 (fun q h => f4 q (by omega) (by omega) (by omega)) | exact zqN (hq I3 pc3 (fun q h => f4 q (by omega) (by omega) (by omega))) (by omega)
      · obtain ⟨m3, ⟨mp, xp⟩, m4, ms1, ms2, ms3, mk0, mk1, mi0, mi1, mt, mb, mf, mr, mh⟩ := id pm
        refine Zm.go [some (.ref _), some (.int _)] vl_189 rfl ?_
        refine Zp.iload_n k_189_0 rfl ?_
        refine Zp.i2l k_189_1 ?_
        refine Zp.lconst (lN 0) k_189_2 (by decide) ?_
        refine Zp.ldc2 (lN 4) k_189_3 (by decide) ?_
        refine Zp.calls3I vs_131 k_189_6 (Nat.le_of_ble_eq_true rfl) (Nat.le_of_ble_eq_true rfl) (c_in (zi2n (by omega)) (lN_z (by decide)) (lN_z (by decide)) ⟨_, rfl, ?_⟩)
        refine Zp.if_neB k_189_9 (fun c_9 => ?_) (fun c_9 => absurd c_9 (by omega))
        refine Zp.aload_n k_189_14 rfl ?_
        refine Zp.callv0V v_159 k_189_15 m_93 (Nat.le_of_ble_eq_true rfl) (Nat.le_of_ble_eq_true rfl) (c_goM pm ho (fun I2 pm2 mq xq s2 => ⟨rfl, ?_⟩))
        refine Zp.aload_n k_189_18 rfl ?_
        refine Zp.callv0V v_171 k_189_19 m_93 (Nat.le_of_ble_eq_true rfl) (Nat.le_of_ble_eq_true rfl) (c_plansGoM mq so xq po (by omega) (fun I3 mp3 h25 g1 g2 g3 => ⟨rfl, ?_⟩))
        refine Zp.iload_n k_189_22 rfl ?_
        refine Zp.if_neN k_189_23 (by omega) (fun _ => ?_) (fun c => absurd c (by decide))
        refine Zp.iload_n k_189_36 rfl ?_
        refine Zp.iconst (nI 1) k_189_37 (by decide) ?_
        refine Zp.icmp_neN k_189_38 (by omega) (by omega) (fun c_38 => ?_) (fun c_38 => ?_)
        · refine Zp.iload_n k_189_51 rfl ?_
          refine Zp.iconst (nI 2) k_189_52 (by decide) ?_
          refine Zp.icmp_neN k_189_53 (by omega) (by omega) (fun c_53 => ?_) (fun c_53 => ?_)
          · refine Zp.iload_n k_189_66 rfl ?_
            refine Zp.iconst (nI 3) k_189_67 (by decide) ?_
            refine Zp.icmp_neN k_189_68 (by omega) (by omega) (fun c_68 => ?_) (fun c_68 => ?_)
            · refine Zp.aload_n k_189_78 rfl ?_
              refine Zp.getV k_189_79 rfl (zlt rfl) m_93 h25 ?_
              refine Zp.iret _ k_189_82 vr_189 rfl ?_
              first | exact hq I3 _ (pm2.fr (g2 3 (by decide)) (g2 4 (by decide)) (g2 18 (by decide)) (g2 23 (by decide)) (g2 34 (by decide)) (fun q h => g1 q (by omega) (by omega))) (fun q h => (g1 q (by omega) (by omega)).trans (s2 q (by omega))) | (exfalso; omega)
            · refine Zp.aload_n k_189_71 rfl ?_
              refine Zp.callv0I v_170 k_189_72 m_93 (Nat.le_of_ble_eq_true rfl) (Nat.le_of_ble_eq_true rfl) (c_allHateM mp3 go ⟨_, rfl, ?_⟩)
              refine Zp.goto k_189_75 ?_
              refine Zp.iret _ k_189_82 vr_189 rfl ?_
              first | exact hq I3 _ (pm2.fr (g2 3 (by decide)) (g2 4 (by decide)) (g2 18 (by decide)) (g2 23 (by decide)) (g2 34 (by decide)) (fun q h => g1 q (by omega) (by omega))) (fun q h => (g1 q (by omega) (by omega)).trans (s2 q (by omega))) | (exfalso; omega)
          · refine Zp.aload_n k_189_56 rfl ?_
            refine Zp.getR k_189_57 rfl (zlt rfl) m_93 r_93_1 ?_
            refine Zp.bipush (nI 34) k_189_60 (by decide) ?_
            refine Zp.iald _ k_189_62 m_95 rfl (by omega) (zlt rfl) mp3.2.2.2.2.2.2 ?_
            refine Zp.goto k_189_63 ?_
            refine Zp.iret _ k_189_82 vr_189 rfl ?_
            first | exact hq I3 _ (pm2.fr (g2 3 (by decide)) (g2 4 (by decide)) (g2 18 (by decide)) (g2 23 (by decide)) (g2 34 (by decide)) (fun q h => g1 q (by omega) (by omega))) (fun q h => (g1 q (by omega) (by omega)).trans (s2 q (by omega))) | (exfalso; omega)
        · refine Zp.aload_n k_189_41 rfl ?_
          refine Zp.getR k_189_42 rfl (zlt rfl) m_93 r_93_1 ?_
          refine Zp.bipush (nI 32) k_189_45 (by decide) ?_
          refine Zp.iald _ k_189_47 m_95 rfl (by omega) (zlt rfl) mp3.2.2.2.2.1 ?_
          refine Zp.goto k_189_48 ?_
          refine Zp.iret _ k_189_82 vr_189 rfl ?_
          first | exact hq I3 _ (pm2.fr (g2 3 (by decide)) (g2 4 (by decide)) (g2 18 (by decide)) (g2 23 (by decide)) (g2 34 (by decide)) (fun q h => g1 q (by omega) (by omega))) (fun q h => (g1 q (by omega) (by omega)).trans (s2 q (by omega))) | (exfalso; omega)
  · refine ⟨.int (-1), A, ho, fun I L Q pc hq => ?_, fun I L Q pm hq => ?_⟩
    · obtain ⟨⟨hp, lp, pp, ep⟩, hk, hi0, hi1, ht, hb, hf, hr, hh⟩ := id pc
      refine Zm.go [some (.ref _), some (.int _), none] vl_95 rfl ?_
      refine Zp.iload_n k_95_0 rfl ?_
      refine Zp.iconst (nI 0) k_95_1 (by decide) ?_
      refine Zp.iconst (nI 4) k_95_2 (by decide) ?_
      refine Zp.calls3I vs_129 k_95_3 (Nat.le_of_ble_eq_true rfl) (Nat.le_of_ble_eq_true rfl) (c_isWithin rfl (nI_toInt (by omega)) (nI_toInt (by omega)) ⟨_, rfl, ?_⟩)
      refine Zp.if_neB k_95_6 (fun c_6 => absurd c_6 (by omega)) (fun c_6 => ?_)
      refine Zp.iconst (-1) k_95_9 (by decide) ?_
      refine Zp.iret _ k_95_10 vr_95 rfl ?_
      exact hq I pc (FrC.rf I)
    · obtain ⟨m3, ⟨mp, xp⟩, m4, ms1, ms2, ms3, mk0, mk1, mi0, mi1, mt, mb, mf, mr, mh⟩ := id pm
      refine Zm.go [some (.ref _), some (.int _)] vl_189 rfl ?_
      refine Zp.iload_n k_189_0 rfl ?_
      refine Zp.i2l k_189_1 ?_
      refine Zp.lconst (lN 0) k_189_2 (by decide) ?_
      refine Zp.ldc2 (lN 4) k_189_3 (by decide) ?_
      refine Zp.calls3I vs_131 k_189_6 (Nat.le_of_ble_eq_true rfl) (Nat.le_of_ble_eq_true rfl) (c_in (zi2l _) (lN_z (by decide)) (lN_z (by decide)) ⟨_, rfl, ?_⟩)
      refine Zp.if_neB k_189_9 (fun c_9 => absurd c_9 (by omega)) (fun c_9 => ?_)
      refine Zp.iconst (-1) k_189_12 (by decide) ?_
      refine Zp.iret _ k_189_13 vr_189 rfl ?_
      first | exact hq I L pm (FrM.rf I) | exact hq I2 L pm2 (fun q hq => s2 q (by omega))
theorem B_ahead (ho : Ao A) : zBoth G 96 190 [.int x, .int y, .int z] A := by
  obtain ⟨⟨so, sz, sst, lo, po, eo⟩, ok0, ok1, oi0, oi1, ot, ob, of_, or_, oh⟩ := id ho
  obtain ⟨o1, o2, o3, o4, o5, o6, o7⟩ := id so
  obtain ⟨p1, p2, p3⟩ := id lo
  obtain ⟨u1, u2⟩ := id po
  obtain ⟨e1, e2⟩ := id eo
  by_cases v : (0 ≤ x.toInt ∧ x.toInt < (sn (kS (aK A)) : Int)) ∧ (0 ≤ y.toInt ∧ y.toInt < (sn (kS (aK A)) : Int)) ∧ ¬ x.toInt = y.toInt
  · by_cases w : 0 ≤ z.toInt ∧ z.toInt ≤ 12
    · obtain ⟨a, ha, rfl, ea⟩ := zin_nI v.1.1 v.1.2
      obtain ⟨b, hb0, rfl, eb⟩ := zin_nI v.2.1.1 v.2.1.2
      obtain ⟨c, hc, rfl, ec⟩ := zin_nI (n := 13) w.1 (by omega)
      refine ⟨.int (nI (sdone (aG (kS (aK A)) a b c))), A, ho, fun I L Q pc hq => ?_, fun I L Q pm hq => ?_⟩
      · obtain ⟨⟨hp, lp, pp, ep⟩, hk, hi0, hi1, ht, hb, hf, hr, hh⟩ := id pc
        have loop : ∀ k i (I1 : zI), i + k = c → Sp I1 31 (aG (kS (aK A)) a b i) → (∀ q, q < 31 ∨ 33 < q → I1 q = I q) → Zp G 96 44 [some (.ref 0), some (.int (nI a)), some (.int (nI b)), some (.int (nI c)), some (.int (nI i))] [] I1 L Q := by
          intro k
          induction k with
          | zero =>
            intro i I1 hi hs1 f1
            have e : i = c := by omega
            subst e
            refine Zp.iload k_96_44 rfl ?_
            refine Zp.iload_n k_96_46 rfl ?_
            refine Zp.icmp_geN k_96_47 (by omega) (by omega) (fun c_47 => ?_) (fun c_47 => absurd c_47 (by omega))
            refine Zp.aload_n k_96_75 rfl ?_
            refine Zp.getR k_96_76 rfl (zlt rfl) m_0 r_0_5 ?_
            refine Zp.getV k_96_79 rfl (zlt rfl) m_31 hs1.2.2.2.2.1 ?_
            refine Zp.iret _ k_96_82 vr_96 rfl ?_
            exact hq I1 (pc.try_ f1) (fun q h => f1 q (by omega))
          | succ k ih =>
            intro i I1 hi hs1 f1
            obtain ⟨q1, q2, q3, q4, q5⟩ := aG_n (kS (aK A)) a b i
            have ho1 := aG_o so a b i
            refine Zp.iload k_96_44 rfl ?_
            refine Zp.iload_n k_96_46 rfl ?_
            refine Zp.icmp_geN k_96_47 (by omega) (by omega) (fun c_47 => absurd c_47 (by omega)) (fun c_47 => ?_)
            refine Zp.aload_n k_96_50 rfl ?_
            refine Zp.getR k_96_51 rfl (zlt rfl) m_0 r_0_5 ?_
            refine Zp.callv0I v_62 k_96_54 m_31 (Nat.le_of_ble_eq_true rfl) (Nat.le_of_ble_eq_true rfl) (c_canBeStirred sa_31 hs1 ho1 (by omega) ⟨_, rfl, ?_⟩)
            refine Zp.if_eqB k_96_57 (fun c_57 => ?_) (fun c_57 => ?_)
            · refine Zp.aload_n k_96_75 rfl ?_
              refine Zp.getR k_96_76 rfl (zlt rfl) m_0 r_0_5 ?_
              refine Zp.getV k_96_79 rfl (zlt rfl) m_31 hs1.2.2.2.2.1 ?_
              refine Zp.iret _ k_96_82 vr_96 rfl ?_
              have e := aG_stop c_57 (k + 1)
              rw [hi] at e
              rw [e] at hq
              exact hq I1 (pc.try_ f1) (fun q h => f1 q (by omega))
            · refine Zp.aload_n k_96_60 rfl ?_
              refine Zp.getR k_96_61 rfl (zlt rfl) m_0 r_0_5 ?_
              refine Zp.iload_n k_96_64 rfl ?_
              refine Zp.iload_n k_96_65 rfl ?_
              refine Zp.callv2V v_63 k_96_66 m_31 (Nat.le_of_ble_eq_true rfl) (Nat.le_of_ble_eq_true rfl) (c_stirOnce sa_31 hs1 ho1 (by omega) (by omega) (by omega) (fun I2 hs2 f2 => ⟨rfl, ?_⟩))
              refine Zp.iinc (nI (_ + 1)) [some (.ref _), some (.int _), some (.int _), some (.int _), some (.int _)] k_96_69 rfl (nI_1 _) (Nat.lt_of_lt_of_eq (zlt rfl : 4 < 5) vl_96.symm) rfl ?_
              refine Zp.goto k_96_72 ?_
              exact ih (i + 1) I2 (by omega) (by unfold aG; rw [if_pos c_57]; exact hs2) (fun q h => (f2 q (by omega) (by omega)).trans (f1 q h))
        
        refine Zm.go [some (.ref _), some (.int _), some (.int _), some (.int _), none] vl_96 rfl ?_
        refine Zp.aload_n k_96_0 rfl ?_
        refine Zp.getR k_96_1 rfl (zlt rfl) m_0 r_0_0 ?_
        refine Zp.getR k_96_4 rfl (zlt rfl) m_1 r_1_0 ?_
        refine Zp.iload_n k_96_7 rfl ?_
        refine Zp.iload_n k_96_8 rfl ?_
        refine Zp.callv2I v_57 k_96_9 m_2 (Nat.le_of_ble_eq_true rfl) (Nat.le_of_ble_eq_true rfl) (c_areTwo sa_2 hp so ⟨_, rfl, ?_⟩)
        refine Zp.if_eqB k_96_12 (fun c_12 => absurd c_12 (by omega)) (fun c_12 => ?_)
        refine Zp.iload_n k_96_15 rfl ?_
        refine Zp.iconst (nI 0) k_96_16 (by decide) ?_
        refine Zp.bipush (nI 12) k_96_17 (by decide) ?_
        refine Zp.calls3I vs_129 k_96_19 (Nat.le_of_ble_eq_true rfl) (Nat.le_of_ble_eq_true rfl) (c_isWithin (nI_toInt (by omega)) (nI_toInt (by omega)) (nI_toInt (by omega)) ⟨_, rfl, ?_⟩)
        refine Zp.if_neB k_96_22 (fun c_22 => ?_) (fun c_22 => absurd c_22 (by omega))
        refine Zp.aload_n k_96_27 rfl ?_
        refine Zp.getR k_96_28 rfl (zlt rfl) m_0 r_0_5 ?_
        refine Zp.aload_n k_96_31 rfl ?_
        refine Zp.getR k_96_32 rfl (zlt rfl) m_0 r_0_0 ?_
        refine Zp.getR k_96_35 rfl (zlt rfl) m_1 r_1_0 ?_
        refine Zp.callv1V v_55 k_96_38 m_31 (Nat.le_of_ble_eq_true rfl) (Nat.le_of_ble_eq_true rfl) (c_Soup_copyFrom sa_31 sa_2 (by omega) hp so (fun I2 hs2 f2 => ⟨rfl, ?_⟩))
        refine Zp.iconst (nI 0) k_96_41 (by decide) ?_
        refine Zp.istore [some (.ref _), some (.int _), some (.int _), some (.int _), some (.int _)] k_96_42 (Nat.lt_of_lt_of_eq (zlt rfl : 4 < 5) vl_96.symm) rfl ?_
        exact loop c 0 I2 (by omega) hs2 (fun q h => f2 q (by omega) (by omega) (by omega))
      · obtain ⟨m3, ⟨mp, xp⟩, m4, ms1, ms2, ms3, mk0, mk1, mi0, mi1, mt, mb, mf, mr, mh⟩ := id pm
        have loop : ∀ k i (I1 : zI), i + k = c → Mp (I1 95) (aG (kS (aK A)) a b i) → (∀ q, q ≠ 95 → I1 q = I q) → Zp G 190 30 [some (.ref 93), some (.int (nI a)), some (.int (nI b)), some (.int (nI c)), some (.int (nI i))] [] I1 L Q := by
          intro k
          induction k with
          | zero =>
            intro i I1 hi hs1 f1
            have e : i = c := by omega
            subst e
            refine Zp.iload k_190_30 rfl ?_
            refine Zp.iload_n k_190_32 rfl ?_
            refine Zp.icmp_geN k_190_33 (by omega) (by omega) (fun c_33 => ?_) (fun c_33 => absurd c_33 (by omega))
            refine Zp.aload_n k_190_49 rfl ?_
            refine Zp.getR k_190_50 rfl (zlt rfl) m_93 r_93_1 ?_
            refine Zp.bipush (nI 33) k_190_53 (by decide) ?_
            refine Zp.iald _ k_190_55 m_95 rfl (by omega) (zlt rfl) hs1.2.2.2.2.2.1 ?_
            refine Zp.iret _ k_190_56 vr_190 rfl ?_
            exact hq I1 _ (pm.at f1) (fun q h => f1 q (by omega))
          | succ k ih =>
            intro i I1 hi hs1 f1
            obtain ⟨q1, q2, q3, q4, q5⟩ := aG_n (kS (aK A)) a b i
            have ho1 := aG_o so a b i
            refine Zp.iload k_190_30 rfl ?_
            refine Zp.iload_n k_190_32 rfl ?_
            refine Zp.icmp_geN k_190_33 (by omega) (by omega) (fun c_33 => absurd c_33 (by omega)) (fun c_33 => ?_)
            refine Zp.aload_n k_190_36 rfl ?_
            refine Zp.iload_n k_190_37 rfl ?_
            refine Zp.iload_n k_190_38 rfl ?_
            refine Zp.callv2I v_169 k_190_39 m_93 (Nat.le_of_ble_eq_true rfl) (Nat.le_of_ble_eq_true rfl) (c_stirsM hs1 ho1 (by omega) (by omega) (by omega) (fun I3 mp3 f3 => ⟨_, rfl, ?_⟩))
            refine Zp.pop k_190_42 rfl ?_
            refine Zp.iinc (nI (_ + 1)) [some (.ref _), some (.int _), some (.int _), some (.int _), some (.int _)] k_190_43 rfl (nI_1 _) (Nat.lt_of_lt_of_eq (zlt rfl : 4 < 5) vl_190.symm) rfl ?_
            refine Zp.goto k_190_46 ?_
            exact ih (i + 1) I3 (by omega) mp3 (fun q h => (f3.1 q h).trans (f1 q h))
        
        refine Zm.go [some (.ref _), some (.int _), some (.int _), some (.int _), none] vl_190 rfl ?_
        refine Zp.aload_n k_190_0 rfl ?_
        refine Zp.iload_n k_190_1 rfl ?_
        refine Zp.iload_n k_190_2 rfl ?_
        refine Zp.callv2I v_156 k_190_3 m_93 (Nat.le_of_ble_eq_true rfl) (Nat.le_of_ble_eq_true rfl) (c_areTwoM m3 (by omega) ⟨_, rfl, ?_⟩)
        refine Zp.if_eqB k_190_6 (fun c_6 => absurd c_6 (by omega)) (fun c_6 => ?_)
        refine Zp.iload_n k_190_9 rfl ?_
        refine Zp.i2l k_190_10 ?_
        refine Zp.lconst (lN 0) k_190_11 (by decide) ?_
        refine Zp.ldc2 (lN 12) k_190_12 (by decide) ?_
        refine Zp.calls3I vs_131 k_190_15 (Nat.le_of_ble_eq_true rfl) (Nat.le_of_ble_eq_true rfl) (c_in (zi2n (by omega)) (lN_z (by decide)) (lN_z (by decide)) ⟨_, rfl, ?_⟩)
        refine Zp.if_neB k_190_18 (fun c_18 => ?_) (fun c_18 => absurd c_18 (by omega))
        refine Zp.aload_n k_190_23 rfl ?_
        refine Zp.callv0V v_159 k_190_24 m_93 (Nat.le_of_ble_eq_true rfl) (Nat.le_of_ble_eq_true rfl) (c_goM pm ho (fun I2 pm2 mq xq s2 => ⟨rfl, ?_⟩))
        refine Zp.iconst (nI 0) k_190_27 (by decide) ?_
        refine Zp.istore [some (.ref _), some (.int _), some (.int _), some (.int _), some (.int _)] k_190_28 (Nat.lt_of_lt_of_eq (zlt rfl : 4 < 5) vl_190.symm) rfl ?_
        exact loop c 0 I2 (by omega) mq s2
    · refine ⟨.int (-1), A, ho, fun I L Q pc hq => ?_, fun I L Q pm hq => ?_⟩
      · obtain ⟨⟨hp, lp, pp, ep⟩, hk, hi0, hi1, ht, hb, hf, hr, hh⟩ := id pc
        refine Zm.go [some (.ref _), some (.int _), some (.int _), some (.int _), none] vl_96 rfl ?_
        refine Zp.aload_n k_96_0 rfl ?_
        refine Zp.getR k_96_1 rfl (zlt rfl) m_0 r_0_0 ?_
        refine Zp.getR k_96_4 rfl (zlt rfl) m_1 r_1_0 ?_
        refine Zp.iload_n k_96_7 rfl ?_
        refine Zp.iload_n k_96_8 rfl ?_
        refine Zp.callv2I v_57 k_96_9 m_2 (Nat.le_of_ble_eq_true rfl) (Nat.le_of_ble_eq_true rfl) (c_areTwo sa_2 hp so ⟨_, rfl, ?_⟩)
        refine Zp.if_eqB k_96_12 (fun c_12 => absurd c_12 (by omega)) (fun c_12 => ?_)
        refine Zp.iload_n k_96_15 rfl ?_
        refine Zp.iconst (nI 0) k_96_16 (by decide) ?_
        refine Zp.bipush (nI 12) k_96_17 (by decide) ?_
        refine Zp.calls3I vs_129 k_96_19 (Nat.le_of_ble_eq_true rfl) (Nat.le_of_ble_eq_true rfl) (c_isWithin rfl (nI_toInt (by omega)) (nI_toInt (by omega)) ⟨_, rfl, ?_⟩)
        refine Zp.if_neB k_96_22 (fun c_22 => absurd c_22 (by omega)) (fun c_22 => ?_)
        refine Zp.iconst (-1) k_96_25 (by decide) ?_
        refine Zp.iret _ k_96_26 vr_96 rfl ?_
        exact hq I pc (FrC.rf I)
      · obtain ⟨m3, ⟨mp, xp⟩, m4, ms1, ms2, ms3, mk0, mk1, mi0, mi1, mt, mb, mf, mr, mh⟩ := id pm
        refine Zm.go [some (.ref _), some (.int _), some (.int _), some (.int _), none] vl_190 rfl ?_
        refine Zp.aload_n k_190_0 rfl ?_
        refine Zp.iload_n k_190_1 rfl ?_
        refine Zp.iload_n k_190_2 rfl ?_
        refine Zp.callv2I v_156 k_190_3 m_93 (Nat.le_of_ble_eq_true rfl) (Nat.le_of_ble_eq_true rfl) (c_areTwoM m3 (by omega) ⟨_, rfl, ?_⟩)
        refine Zp.if_eqB k_190_6 (fun c_6 => absurd c_6 (by omega)) (fun c_6 => ?_)
        refine Zp.iload_n k_190_9 rfl ?_
        refine Zp.i2l k_190_10 ?_
        refine Zp.lconst (lN 0) k_190_11 (by decide) ?_
        refine Zp.ldc2 (lN 12) k_190_12 (by decide) ?_
        refine Zp.calls3I vs_131 k_190_15 (Nat.le_of_ble_eq_true rfl) (Nat.le_of_ble_eq_true rfl) (c_in (zi2l _) (lN_z (by decide)) (lN_z (by decide)) ⟨_, rfl, ?_⟩)
        refine Zp.if_neB k_190_18 (fun c_18 => absurd c_18 (by omega)) (fun c_18 => ?_)
        refine Zp.iconst (-1) k_190_21 (by decide) ?_
        refine Zp.iret _ k_190_22 vr_190 rfl ?_
        first | exact hq I L pm (FrM.rf I) | exact hq I2 L pm2 (fun q hq => s2 q (by omega))
  · refine ⟨.int (-1), A, ho, fun I L Q pc hq => ?_, fun I L Q pm hq => ?_⟩
    · obtain ⟨⟨hp, lp, pp, ep⟩, hk, hi0, hi1, ht, hb, hf, hr, hh⟩ := id pc
      refine Zm.go [some (.ref _), some (.int _), some (.int _), some (.int _), none] vl_96 rfl ?_
      refine Zp.aload_n k_96_0 rfl ?_
      refine Zp.getR k_96_1 rfl (zlt rfl) m_0 r_0_0 ?_
      refine Zp.getR k_96_4 rfl (zlt rfl) m_1 r_1_0 ?_
      refine Zp.iload_n k_96_7 rfl ?_
      refine Zp.iload_n k_96_8 rfl ?_
      refine Zp.callv2I v_57 k_96_9 m_2 (Nat.le_of_ble_eq_true rfl) (Nat.le_of_ble_eq_true rfl) (c_areTwo sa_2 hp so ⟨_, rfl, ?_⟩)
      refine Zp.if_eqB k_96_12 (fun c_12 => ?_) (fun c_12 => (by first | exact absurd c_12 v | exact absurd v c_12))
      refine Zp.iconst (-1) k_96_25 (by decide) ?_
      refine Zp.iret _ k_96_26 vr_96 rfl ?_
      exact hq I pc (FrC.rf I)
    · obtain ⟨m3, ⟨mp, xp⟩, m4, ms1, ms2, ms3, mk0, mk1, mi0, mi1, mt, mb, mf, mr, mh⟩ := id pm
      refine Zm.go [some (.ref _), some (.int _), some (.int _), some (.int _), none] vl_190 rfl ?_
      refine Zp.aload_n k_190_0 rfl ?_
      refine Zp.iload_n k_190_1 rfl ?_
      refine Zp.iload_n k_190_2 rfl ?_
      refine Zp.callv2I v_156 k_190_3 m_93 (Nat.le_of_ble_eq_true rfl) (Nat.le_of_ble_eq_true rfl) (c_areTwoM m3 (by omega) ⟨_, rfl, ?_⟩)
      refine Zp.if_eqB k_190_6 (fun c_6 => ?_) (fun c_6 => (by first | exact absurd c_6 v | exact absurd v c_6))
      refine Zp.iconst (-1) k_190_21 (by decide) ?_
      refine Zp.iret _ k_190_22 vr_190 rfl ?_
      first | exact hq I L pm (FrM.rf I) | exact hq I2 L pm2 (fun q hq => s2 q (by omega))
theorem B_lasts (ho : Ao A) : zBoth G 97 191 [.int x, .int y] A := by
  obtain ⟨⟨so, sz, sst, lo, po, eo⟩, ok0, ok1, oi0, oi1, ot, ob, of_, or_, oh⟩ := id ho
  obtain ⟨o1, o2, o3, o4, o5, o6, o7⟩ := id so
  obtain ⟨p1, p2, p3⟩ := id lo
  obtain ⟨u1, u2⟩ := id po
  obtain ⟨e1, e2⟩ := id eo
  by_cases v : (0 ≤ x.toInt ∧ x.toInt < (sn (kS (aK A)) : Int)) ∧ (0 ≤ y.toInt ∧ y.toInt < (sn (kS (aK A)) : Int)) ∧ ¬ x.toInt = y.toInt
  · obtain ⟨a, ha, rfl, ea⟩ := zin_nI v.1.1 v.1.2
    obtain ⟨b, hb0, rfl, eb⟩ := zin_nI v.2.1.1 v.2.1.2
    by_cases w : sset (kS (aK A)) = 0
    · refine ⟨.int (nI (laF a b 30 (kS (aK A)))), A, ho, fun I L Q pc hq => ?_, fun I L Q pm hq => ?_⟩
      · obtain ⟨⟨hp, lp, pp, ep⟩, hk, hi0, hi1, ht, hb, hf, hr, hh⟩ := id pc
        have loop : ∀ f i S (I1 : zI), phi S a b < f → i + f ≤ 30 → So S → sn S = sn (kS (aK A)) → sset S = 0 → sstep S ≤ 12 + i → Sp I1 31 S → (∀ q, q < 31 ∨ 33 < q → I1 q = I q) → i + laF a b f S = laF a b 30 (kS (aK A)) → Zp G 97 48 [some (.ref 0), some (.int (nI a)), some (.int (nI b)), some (.int (nI i))] [] I1 L Q := by
          intro f
          induction f with
          | zero => intro i S I1 h; exact absurd h (Nat.not_lt_zero _)
          | succ f ih =>
            intro i S I1 hf hi ho1 hn hz hst hs1 f1 hl
            have ht := tn_le ho1 a b
            refine Zp.iload_n k_97_48 rfl ?_
            refine Zp.bipush (nI 100) k_97_49 (by decide) ?_
            refine Zp.icmp_geN k_97_51 (by omega) (by omega) (fun c_51 => absurd c_51 (by omega)) (fun c_51 => ?_)
            refine Zp.aload_n k_97_54 rfl ?_
            refine Zp.getR k_97_55 rfl (zlt rfl) m_0 r_0_5 ?_
            refine Zp.iload_n k_97_58 rfl ?_
            refine Zp.iload_n k_97_59 rfl ?_
            refine Zp.callv2I v_61 k_97_60 m_31 (Nat.le_of_ble_eq_true rfl) (Nat.le_of_ble_eq_true rfl) (c_turnOf sa_31 hs1 ho1 (by omega) (by omega) ⟨_, rfl, ?_⟩)
            refine Zp.if_leN k_97_63 (by omega) (fun c_63 => ?_) (fun c_63 => ?_)
            · refine Zp.iload_n k_97_81 rfl ?_
              refine Zp.iret _ k_97_82 vr_97 rfl ?_
              rw [show laF a b (f + 1) S = 0 from if_pos c_63] at hl
              exact zqN (hq I1 (pc.try_ f1) (fun q h => f1 q (by omega))) (by omega)
            · refine Zp.aload_n k_97_66 rfl ?_
              refine Zp.getR k_97_67 rfl (zlt rfl) m_0 r_0_5 ?_
              refine Zp.iload_n k_97_70 rfl ?_
              refine Zp.iload_n k_97_71 rfl ?_
              refine Zp.callv2V v_63 k_97_72 m_31 (Nat.le_of_ble_eq_true rfl) (Nat.le_of_ble_eq_true rfl) (c_stirOnce sa_31 hs1 ho1 (by omega) (by omega) (by omega) (fun I2 hs2 f2 => ⟨rfl, ?_⟩))
              refine Zp.iinc (nI (_ + 1)) [some (.ref _), some (.int _), some (.int _), some (.int _)] k_97_75 rfl (nI_1 _) (Nat.lt_of_lt_of_eq (zlt rfl : 3 < 4) vl_97.symm) rfl ?_
              refine Zp.goto k_97_78 ?_
              have ph := phi_st (show a < 5 by omega) (show b < 5 by omega) (by omega) (Nat.pos_of_ne_zero c_63)
              exact ih (i + 1) _ I2 (by omega) (by omega) (ho1.st a b) ((stS_n _ _ _).trans hn) ((stS_set (tn_pos (Nat.pos_of_ne_zero c_63)).1).trans hz) (by rw [stS_step]; omega) hs2 (fun q h => (f2 q (by omega) (by omega)).trans (f1 q h)) (by rw [← hl, show laF a b (f + 1) S = laF a b f (stS S a b) + 1 from if_neg c_63]; omega)
        
        refine Zm.go [some (.ref _), some (.int _), some (.int _), none] vl_97 rfl ?_
        refine Zp.aload_n k_97_0 rfl ?_
        refine Zp.getR k_97_1 rfl (zlt rfl) m_0 r_0_0 ?_
        refine Zp.getR k_97_4 rfl (zlt rfl) m_1 r_1_0 ?_
        refine Zp.iload_n k_97_7 rfl ?_
        refine Zp.iload_n k_97_8 rfl ?_
        refine Zp.callv2I v_57 k_97_9 m_2 (Nat.le_of_ble_eq_true rfl) (Nat.le_of_ble_eq_true rfl) (c_areTwo sa_2 hp so ⟨_, rfl, ?_⟩)
        refine Zp.if_neB k_97_12 (fun c_12 => ?_) (fun c_12 => absurd c_12 (by omega))
        refine Zp.aload_n k_97_17 rfl ?_
        refine Zp.getR k_97_18 rfl (zlt rfl) m_0 r_0_0 ?_
        refine Zp.getR k_97_21 rfl (zlt rfl) m_1 r_1_0 ?_
        refine Zp.getV k_97_24 rfl (zlt rfl) m_2 hp.2.2.2.2.2.1 ?_
        refine Zp.if_eqN k_97_27 (by omega) (fun c_27 => ?_) (fun c_27 => absurd c_27 (by omega))
        refine Zp.aload_n k_97_32 rfl ?_
        refine Zp.getR k_97_33 rfl (zlt rfl) m_0 r_0_5 ?_
        refine Zp.aload_n k_97_36 rfl ?_
        refine Zp.getR k_97_37 rfl (zlt rfl) m_0 r_0_0 ?_
        refine Zp.getR k_97_40 rfl (zlt rfl) m_1 r_1_0 ?_
        refine Zp.callv1V v_55 k_97_43 m_31 (Nat.le_of_ble_eq_true rfl) (Nat.le_of_ble_eq_true rfl) (c_Soup_copyFrom sa_31 sa_2 (by omega) hp so (fun I2 hs2 f2 => ⟨rfl, ?_⟩))
        refine Zp.iconst (nI 0) k_97_46 (by decide) ?_
        refine Zp.istore_n [some (.ref _), some (.int _), some (.int _), some (.int _)] k_97_47 (Nat.lt_of_lt_of_eq (zlt rfl : 3 < 4) vl_97.symm) rfl ?_
        have ph := phi_le so a b
        exact loop 30 0 _ I2 (by omega) (by omega) so rfl w (by omega) hs2 (fun q h => f2 q (by omega) (by omega) (by omega)) (by omega)
      · obtain ⟨m3, ⟨mp, xp⟩, m4, ms1, ms2, ms3, mk0, mk1, mi0, mi1, mt, mb, mf, mr, mh⟩ := id pm
        have loop : ∀ f i S (I1 : zI), phi S a b < f → i + f ≤ 30 → So S → sn S = sn (kS (aK A)) → sset S = 0 → sstep S ≤ 12 + i → Mp (I1 95) S → (∀ q, q ≠ 95 → I1 q = I q) → i + laF a b f S = laF a b 30 (kS (aK A)) → Zp G 191 17 [some (.ref 93), some (.int (nI a)), some (.int (nI b)), some (.int (nI i))] [] I1 L Q := by
          intro f
          induction f with
          | zero => intro i S I1 h; exact absurd h (Nat.not_lt_zero _)
          | succ f ih =>
            intro i S I1 hf hi ho1 hn hz hst hs1 f1 hl
            have ht := tn_le ho1 a b
            refine Zp.iload_n k_191_17 rfl ?_
            refine Zp.bipush (nI 99) k_191_18 (by decide) ?_
            refine Zp.icmp_geN k_191_20 (by omega) (by omega) (fun c_20 => absurd c_20 (by omega)) (fun c_20 => ?_)
            refine Zp.aload_n k_191_23 rfl ?_
            refine Zp.getR k_191_24 rfl (zlt rfl) m_93 r_93_1 ?_
            refine Zp.bipush (nI 34) k_191_27 (by decide) ?_
            refine Zp.iald _ k_191_29 m_95 rfl (by omega) (zlt rfl) hs1.2.2.2.2.2.2 ?_
            refine Zp.if_neN k_191_30 (by omega) (fun c_30 => absurd c_30 (by omega)) (fun c_30 => ?_)
            refine Zp.aload_n k_191_33 rfl ?_
            refine Zp.iload_n k_191_34 rfl ?_
            refine Zp.iload_n k_191_35 rfl ?_
            refine Zp.callv2I v_165 k_191_36 m_93 (Nat.le_of_ble_eq_true rfl) (Nat.le_of_ble_eq_true rfl) (c_turnOfM hs1 ho1 (by omega) (by omega) ⟨_, rfl, ?_⟩)
            refine Zp.if_leN k_191_39 (by omega) (fun c_39 => ?_) (fun c_39 => ?_)
            · refine Zp.iload_n k_191_55 rfl ?_
              refine Zp.iret _ k_191_56 vr_191 rfl ?_
              rw [show laF a b (f + 1) S = 0 from if_pos c_39] at hl
              exact zqN (hq I1 _ (pm.at f1) (fun q h => f1 q (by omega))) (by omega)
            · refine Zp.aload_n k_191_42 rfl ?_
              refine Zp.iload_n k_191_43 rfl ?_
              refine Zp.iload_n k_191_44 rfl ?_
              refine Zp.callv2I v_168 k_191_45 m_93 (Nat.le_of_ble_eq_true rfl) (Nat.le_of_ble_eq_true rfl) (c_stirsOnM hs1 ho1 (by omega) (by omega) (by omega) (fun h9 => absurd h9 (by omega)) (fun _ I2 hs2 f2 => ⟨_, rfl, ?_⟩))
              refine Zp.pop k_191_48 rfl ?_
              refine Zp.iinc (nI (_ + 1)) [some (.ref _), some (.int _), some (.int _), some (.int _)] k_191_49 rfl (nI_1 _) (Nat.lt_of_lt_of_eq (zlt rfl : 3 < 4) vl_191.symm) rfl ?_
              refine Zp.goto k_191_52 ?_
              have ph := phi_st (show a < 5 by omega) (show b < 5 by omega) (by omega) (Nat.pos_of_ne_zero c_39)
              exact ih (i + 1) _ I2 (by omega) (by omega) (ho1.st a b) ((stS_n _ _ _).trans hn) ((stS_set (tn_pos (Nat.pos_of_ne_zero c_39)).1).trans hz) (by rw [stS_step]; omega) hs2 (fun q h => (f2.1 q h).trans (f1 q h)) (by rw [← hl, show laF a b (f + 1) S = laF a b f (stS S a b) + 1 from if_neg c_39]; omega)
        
        refine Zm.go [some (.ref _), some (.int _), some (.int _), none] vl_191 rfl ?_
        refine Zp.aload_n k_191_0 rfl ?_
        refine Zp.iload_n k_191_1 rfl ?_
        refine Zp.iload_n k_191_2 rfl ?_
        refine Zp.callv2I v_156 k_191_3 m_93 (Nat.le_of_ble_eq_true rfl) (Nat.le_of_ble_eq_true rfl) (c_areTwoM m3 (by omega) ⟨_, rfl, ?_⟩)
        refine Zp.if_neB k_191_6 (fun c_6 => ?_) (fun c_6 => absurd c_6 (by omega))
        refine Zp.iconst (nI 0) k_191_11 (by decide) ?_
        refine Zp.istore_n [some (.ref _), some (.int _), some (.int _), some (.int _)] k_191_12 (Nat.lt_of_lt_of_eq (zlt rfl : 3 < 4) vl_191.symm) rfl ?_
        refine Zp.aload_n k_191_13 rfl ?_
        refine Zp.callv0V v_159 k_191_14 m_93 (Nat.le_of_ble_eq_true rfl) (Nat.le_of_ble_eq_true rfl) (c_goM pm ho (fun I2 pm2 mq xq s2 => ⟨rfl, ?_⟩))
        have ph := phi_le so a b
        exact loop 30 0 _ I2 (by omega) (by omega) so rfl w (by omega) mq s2 (by omega)
    · refine ⟨.int (nI 0), A, ho, fun I L Q pc hq => ?_, fun I L Q pm hq => ?_⟩
      · obtain ⟨⟨hp, lp, pp, ep⟩, hk, hi0, hi1, ht, hb, hf, hr, hh⟩ := id pc
        refine Zm.go [some (.ref _), some (.int _), some (.int _), none] vl_97 rfl ?_
        refine Zp.aload_n k_97_0 rfl ?_
        refine Zp.getR k_97_1 rfl (zlt rfl) m_0 r_0_0 ?_
        refine Zp.getR k_97_4 rfl (zlt rfl) m_1 r_1_0 ?_
        refine Zp.iload_n k_97_7 rfl ?_
        refine Zp.iload_n k_97_8 rfl ?_
        refine Zp.callv2I v_57 k_97_9 m_2 (Nat.le_of_ble_eq_true rfl) (Nat.le_of_ble_eq_true rfl) (c_areTwo sa_2 hp so ⟨_, rfl, ?_⟩)
        refine Zp.if_neB k_97_12 (fun c_12 => ?_) (fun c_12 => absurd c_12 (by omega))
        refine Zp.aload_n k_97_17 rfl ?_
        refine Zp.getR k_97_18 rfl (zlt rfl) m_0 r_0_0 ?_
        refine Zp.getR k_97_21 rfl (zlt rfl) m_1 r_1_0 ?_
        refine Zp.getV k_97_24 rfl (zlt rfl) m_2 hp.2.2.2.2.2.1 ?_
        refine Zp.if_eqN k_97_27 (by omega) (fun c_27 => absurd c_27 (by omega)) (fun c_27 => ?_)
        refine Zp.iconst (nI 0) k_97_30 (by decide) ?_
        refine Zp.iret _ k_97_31 vr_97 rfl ?_
        exact hq I pc (FrC.rf I)
      · obtain ⟨m3, ⟨mp, xp⟩, m4, ms1, ms2, ms3, mk0, mk1, mi0, mi1, mt, mb, mf, mr, mh⟩ := id pm
        refine Zm.go [some (.ref _), some (.int _), some (.int _), none] vl_191 rfl ?_
        refine Zp.aload_n k_191_0 rfl ?_
        refine Zp.iload_n k_191_1 rfl ?_
        refine Zp.iload_n k_191_2 rfl ?_
        refine Zp.callv2I v_156 k_191_3 m_93 (Nat.le_of_ble_eq_true rfl) (Nat.le_of_ble_eq_true rfl) (c_areTwoM m3 (by omega) ⟨_, rfl, ?_⟩)
        refine Zp.if_neB k_191_6 (fun c_6 => ?_) (fun c_6 => absurd c_6 (by omega))
        refine Zp.iconst (nI 0) k_191_11 (by decide) ?_
        refine Zp.istore_n [some (.ref _), some (.int _), some (.int _), some (.int _)] k_191_12 (Nat.lt_of_lt_of_eq (zlt rfl : 3 < 4) vl_191.symm) rfl ?_
        refine Zp.aload_n k_191_13 rfl ?_
        refine Zp.callv0V v_159 k_191_14 m_93 (Nat.le_of_ble_eq_true rfl) (Nat.le_of_ble_eq_true rfl) (c_goM pm ho (fun I2 pm2 mq xq s2 => ⟨rfl, ?_⟩))
        refine Zp.iload_n k_191_17 rfl ?_
        refine Zp.bipush (nI 99) k_191_18 (by decide) ?_
        refine Zp.icmp_geN k_191_20 (by omega) (by omega) (fun c_20 => ?_) (fun c_20 => ?_)
        · refine Zp.iload_n k_191_55 rfl ?_
          refine Zp.iret _ k_191_56 vr_191 rfl ?_
          first | exact hq I L pm (FrM.rf I) | exact hq I2 L pm2 (fun q hq => s2 q (by omega))
        · refine Zp.aload_n k_191_23 rfl ?_
          refine Zp.getR k_191_24 rfl (zlt rfl) m_93 r_93_1 ?_
          refine Zp.bipush (nI 34) k_191_27 (by decide) ?_
          refine Zp.iald _ k_191_29 m_95 rfl (by omega) (zlt rfl) mq.2.2.2.2.2.2 ?_
          refine Zp.if_neN k_191_30 (by omega) (fun c_30 => ?_) (fun c_30 => absurd c_30 (by omega))
          refine Zp.iload_n k_191_55 rfl ?_
          refine Zp.iret _ k_191_56 vr_191 rfl ?_
          first | exact hq I L pm (FrM.rf I) | exact hq I2 L pm2 (fun q hq => s2 q (by omega))
  · refine ⟨.int (-1), A, ho, fun I L Q pc hq => ?_, fun I L Q pm hq => ?_⟩
    · obtain ⟨⟨hp, lp, pp, ep⟩, hk, hi0, hi1, ht, hb, hf, hr, hh⟩ := id pc
      refine Zm.go [some (.ref _), some (.int _), some (.int _), none] vl_97 rfl ?_
      refine Zp.aload_n k_97_0 rfl ?_
      refine Zp.getR k_97_1 rfl (zlt rfl) m_0 r_0_0 ?_
      refine Zp.getR k_97_4 rfl (zlt rfl) m_1 r_1_0 ?_
      refine Zp.iload_n k_97_7 rfl ?_
      refine Zp.iload_n k_97_8 rfl ?_
      refine Zp.callv2I v_57 k_97_9 m_2 (Nat.le_of_ble_eq_true rfl) (Nat.le_of_ble_eq_true rfl) (c_areTwo sa_2 hp so ⟨_, rfl, ?_⟩)
      refine Zp.if_neB k_97_12 (fun c_12 => (by first | exact absurd c_12 v | exact absurd v c_12)) (fun c_12 => ?_)
      refine Zp.iconst (-1) k_97_15 (by decide) ?_
      refine Zp.iret _ k_97_16 vr_97 rfl ?_
      exact hq I pc (FrC.rf I)
    · obtain ⟨m3, ⟨mp, xp⟩, m4, ms1, ms2, ms3, mk0, mk1, mi0, mi1, mt, mb, mf, mr, mh⟩ := id pm
      refine Zm.go [some (.ref _), some (.int _), some (.int _), none] vl_191 rfl ?_
      refine Zp.aload_n k_191_0 rfl ?_
      refine Zp.iload_n k_191_1 rfl ?_
      refine Zp.iload_n k_191_2 rfl ?_
      refine Zp.callv2I v_156 k_191_3 m_93 (Nat.le_of_ble_eq_true rfl) (Nat.le_of_ble_eq_true rfl) (c_areTwoM m3 (by omega) ⟨_, rfl, ?_⟩)
      refine Zp.if_neB k_191_6 (fun c_6 => (by first | exact absurd c_6 v | exact absurd v c_6)) (fun c_6 => ?_)
      refine Zp.iconst (-1) k_191_9 (by decide) ?_
      refine Zp.iret _ k_191_10 vr_191 rfl ?_
      first | exact hq I L pm (FrM.rf I) | exact hq I2 L pm2 (fun q hq => s2 q (by omega))
theorem B_three (ho : Ao A) : zBoth G 98 192 [.int x, .int y, .int z] A := by
  obtain ⟨⟨so, sz, sst, lo, po, eo⟩, ok0, ok1, oi0, oi1, ot, ob, of_, or_, oh⟩ := id ho
  obtain ⟨o1, o2, o3, o4, o5, o6, o7⟩ := id so
  obtain ⟨p1, p2, p3⟩ := id lo
  obtain ⟨u1, u2⟩ := id po
  obtain ⟨e1, e2⟩ := id eo
  by_cases v : (0 ≤ x.toInt ∧ x.toInt < (sn (kS (aK A)) : Int)) ∧ (0 ≤ y.toInt ∧ y.toInt < (sn (kS (aK A)) : Int)) ∧ ¬ x.toInt = y.toInt
  · by_cases w : (0 ≤ y.toInt ∧ y.toInt < (sn (kS (aK A)) : Int)) ∧ (0 ≤ z.toInt ∧ z.toInt < (sn (kS (aK A)) : Int)) ∧ ¬ y.toInt = z.toInt
    · by_cases u : x.toInt = z.toInt
      · refine ⟨.int (-1), A, ho, fun I L Q pc hq => ?_, fun I L Q pm hq => ?_⟩
        · obtain ⟨⟨hp, lp, pp, ep⟩, hk, hi0, hi1, ht, hb, hf, hr, hh⟩ := id pc
          refine Zm.go [some (.ref _), some (.int _), some (.int _), some (.int _)] vl_98 rfl ?_
          refine Zp.aload_n k_98_0 rfl ?_
          refine Zp.getR k_98_1 rfl (zlt rfl) m_0 r_0_0 ?_
          refine Zp.getR k_98_4 rfl (zlt rfl) m_1 r_1_0 ?_
          refine Zp.iload_n k_98_7 rfl ?_
          refine Zp.iload_n k_98_8 rfl ?_
          refine Zp.callv2I v_57 k_98_9 m_2 (Nat.le_of_ble_eq_true rfl) (Nat.le_of_ble_eq_true rfl) (c_areTwo sa_2 hp so ⟨_, rfl, ?_⟩)
          refine Zp.if_eqB k_98_12 (fun c_12 => (by first | exact absurd c_12 v | exact absurd v c_12)) (fun c_12 => ?_)
          refine Zp.aload_n k_98_15 rfl ?_
          refine Zp.getR k_98_16 rfl (zlt rfl) m_0 r_0_0 ?_
          refine Zp.getR k_98_19 rfl (zlt rfl) m_1 r_1_0 ?_
          refine Zp.iload_n k_98_22 rfl ?_
          refine Zp.iload_n k_98_23 rfl ?_
          refine Zp.callv2I v_57 k_98_24 m_2 (Nat.le_of_ble_eq_true rfl) (Nat.le_of_ble_eq_true rfl) (c_areTwo sa_2 hp so ⟨_, rfl, ?_⟩)
          refine Zp.if_eqB k_98_27 (fun c_27 => (by first | exact absurd c_27 w | exact absurd w c_27)) (fun c_27 => ?_)
          refine Zp.aload_n k_98_30 rfl ?_
          refine Zp.getR k_98_31 rfl (zlt rfl) m_0 r_0_0 ?_
          refine Zp.getR k_98_34 rfl (zlt rfl) m_1 r_1_0 ?_
          refine Zp.iload_n k_98_37 rfl ?_
          refine Zp.iload_n k_98_38 rfl ?_
          refine Zp.callv2I v_57 k_98_39 m_2 (Nat.le_of_ble_eq_true rfl) (Nat.le_of_ble_eq_true rfl) (c_areTwo sa_2 hp so ⟨_, rfl, ?_⟩)
          refine Zp.if_neB k_98_42 (fun c_42 => absurd c_42 (by omega)) (fun c_42 => ?_)
          refine Zp.iconst (-1) k_98_45 (by decide) ?_
          refine Zp.iret _ k_98_46 vr_98 rfl ?_
          exact hq I pc (FrC.rf I)
        · obtain ⟨m3, ⟨mp, xp⟩, m4, ms1, ms2, ms3, mk0, mk1, mi0, mi1, mt, mb, mf, mr, mh⟩ := id pm
          refine Zm.go [some (.ref _), some (.int _), some (.int _), some (.int _), none, none] vl_192 rfl ?_
          refine Zp.aload_n k_192_0 rfl ?_
          refine Zp.iload_n k_192_1 rfl ?_
          refine Zp.iload_n k_192_2 rfl ?_
          refine Zp.callv2I v_156 k_192_3 m_93 (Nat.le_of_ble_eq_true rfl) (Nat.le_of_ble_eq_true rfl) (c_areTwoM m3 (by omega) ⟨_, rfl, ?_⟩)
          refine Zp.if_eqB k_192_6 (fun c_6 => (by first | exact absurd c_6 v | exact absurd v c_6)) (fun c_6 => ?_)
          refine Zp.aload_n k_192_9 rfl ?_
          refine Zp.iload_n k_192_10 rfl ?_
          refine Zp.iload_n k_192_11 rfl ?_
          refine Zp.callv2I v_156 k_192_12 m_93 (Nat.le_of_ble_eq_true rfl) (Nat.le_of_ble_eq_true rfl) (c_areTwoM m3 (by omega) ⟨_, rfl, ?_⟩)
          refine Zp.if_eqB k_192_15 (fun c_15 => (by first | exact absurd c_15 w | exact absurd w c_15)) (fun c_15 => ?_)
          refine Zp.iload_n k_192_18 rfl ?_
          refine Zp.iload_n k_192_19 rfl ?_
          refine Zp.icmp_neZ _ _ k_192_20 rfl rfl (fun c_20 => absurd c_20 (by omega)) (fun c_20 => ?_)
          refine Zp.iconst (-1) k_192_23 (by decide) ?_
          refine Zp.iret _ k_192_24 vr_192 rfl ?_
          first | exact hq I L pm (FrM.rf I) | exact hq I2 L pm2 (fun q hq => s2 q (by omega))
      · obtain ⟨a, ha, rfl, ea⟩ := zin_nI v.1.1 v.1.2
        obtain ⟨b, hb0, rfl, eb⟩ := zin_nI v.2.1.1 v.2.1.2
        obtain ⟨c, hc, rfl, ec⟩ := zin_nI w.2.1.1 w.2.1.2
        have l1 := fl_le so a b
        have l2 := fl_le so b c
        have l3 := fl_le so c a
        have l4 := fl_le so a c
        have l5 := fl_le so c b
        have l6 := fl_le so b a
        refine ⟨.int (nI (max (min (fl (kS (aK A)) a b) (min (fl (kS (aK A)) b c) (fl (kS (aK A)) c a))) (min (fl (kS (aK A)) a c) (min (fl (kS (aK A)) c b) (fl (kS (aK A)) b a))))), A, ho, fun I L Q pc hq => ?_, fun I L Q pm hq => ?_⟩
        · obtain ⟨⟨hp, lp, pp, ep⟩, hk, hi0, hi1, ht, hb, hf, hr, hh⟩ := id pc
          refine Zm.go [some (.ref _), some (.int _), some (.int _), some (.int _)] vl_98 rfl ?_
          refine Zp.aload_n k_98_0 rfl ?_
          refine Zp.getR k_98_1 rfl (zlt rfl) m_0 r_0_0 ?_
          refine Zp.getR k_98_4 rfl (zlt rfl) m_1 r_1_0 ?_
          refine Zp.iload_n k_98_7 rfl ?_
          refine Zp.iload_n k_98_8 rfl ?_
          refine Zp.callv2I v_57 k_98_9 m_2 (Nat.le_of_ble_eq_true rfl) (Nat.le_of_ble_eq_true rfl) (c_areTwo sa_2 hp so ⟨_, rfl, ?_⟩)
          refine Zp.if_eqB k_98_12 (fun c_12 => absurd c_12 (by omega)) (fun c_12 => ?_)
          refine Zp.aload_n k_98_15 rfl ?_
          refine Zp.getR k_98_16 rfl (zlt rfl) m_0 r_0_0 ?_
          refine Zp.getR k_98_19 rfl (zlt rfl) m_1 r_1_0 ?_
          refine Zp.iload_n k_98_22 rfl ?_
          refine Zp.iload_n k_98_23 rfl ?_
          refine Zp.callv2I v_57 k_98_24 m_2 (Nat.le_of_ble_eq_true rfl) (Nat.le_of_ble_eq_true rfl) (c_areTwo sa_2 hp so ⟨_, rfl, ?_⟩)
          refine Zp.if_eqB k_98_27 (fun c_27 => absurd c_27 (by omega)) (fun c_27 => ?_)
          refine Zp.aload_n k_98_30 rfl ?_
          refine Zp.getR k_98_31 rfl (zlt rfl) m_0 r_0_0 ?_
          refine Zp.getR k_98_34 rfl (zlt rfl) m_1 r_1_0 ?_
          refine Zp.iload_n k_98_37 rfl ?_
          refine Zp.iload_n k_98_38 rfl ?_
          refine Zp.callv2I v_57 k_98_39 m_2 (Nat.le_of_ble_eq_true rfl) (Nat.le_of_ble_eq_true rfl) (c_areTwo sa_2 hp so ⟨_, rfl, ?_⟩)
          refine Zp.if_neB k_98_42 (fun c_42 => ?_) (fun c_42 => absurd c_42 (by omega))
          refine Zp.aload_n k_98_47 rfl ?_
          refine Zp.iload_n k_98_48 rfl ?_
          refine Zp.iload_n k_98_49 rfl ?_
          refine Zp.iload_n k_98_50 rfl ?_
          refine Zp.callv3I v_99 k_98_51 m_0 (Nat.le_of_ble_eq_true rfl) (Nat.le_of_ble_eq_true rfl) (c_leastRound hp so (by omega) (by omega) (by omega) ⟨_, rfl, ?_⟩)
          refine Zp.aload_n k_98_54 rfl ?_
          refine Zp.iload_n k_98_55 rfl ?_
          refine Zp.iload_n k_98_56 rfl ?_
          refine Zp.iload_n k_98_57 rfl ?_
          refine Zp.callv3I v_99 k_98_58 m_0 (Nat.le_of_ble_eq_true rfl) (Nat.le_of_ble_eq_true rfl) (c_leastRound hp so (by omega) (by omega) (by omega) ⟨_, rfl, ?_⟩)
          refine Zp.mmaxN k_98_61 (Nat.le_of_ble_eq_true rfl) (by omega) (by omega) ?_
          refine Zp.iret _ k_98_64 vr_98 rfl ?_
          exact hq I pc (FrC.rf I)
        · obtain ⟨m3, ⟨mp, xp⟩, m4, ms1, ms2, ms3, mk0, mk1, mi0, mi1, mt, mb, mf, mr, mh⟩ := id pm
          refine Zm.go [some (.ref _), some (.int _), some (.int _), some (.int _), none, none] vl_192 rfl ?_
          refine Zp.aload_n k_192_0 rfl ?_
          refine Zp.iload_n k_192_1 rfl ?_
          refine Zp.iload_n k_192_2 rfl ?_
          refine Zp.callv2I v_156 k_192_3 m_93 (Nat.le_of_ble_eq_true rfl) (Nat.le_of_ble_eq_true rfl) (c_areTwoM m3 (by omega) ⟨_, rfl, ?_⟩)
          refine Zp.if_eqB k_192_6 (fun c_6 => absurd c_6 (by omega)) (fun c_6 => ?_)
          refine Zp.aload_n k_192_9 rfl ?_
          refine Zp.iload_n k_192_10 rfl ?_
          refine Zp.iload_n k_192_11 rfl ?_
          refine Zp.callv2I v_156 k_192_12 m_93 (Nat.le_of_ble_eq_true rfl) (Nat.le_of_ble_eq_true rfl) (c_areTwoM m3 (by omega) ⟨_, rfl, ?_⟩)
          refine Zp.if_eqB k_192_15 (fun c_15 => absurd c_15 (by omega)) (fun c_15 => ?_)
          refine Zp.iload_n k_192_18 rfl ?_
          refine Zp.iload_n k_192_19 rfl ?_
          refine Zp.icmp_neN k_192_20 (by omega) (by omega) (fun c_20 => ?_) (fun c_20 => absurd c_20 (by omega))
          refine Zp.aload_n k_192_25 rfl ?_
          refine Zp.callv0V v_159 k_192_26 m_93 (Nat.le_of_ble_eq_true rfl) (Nat.le_of_ble_eq_true rfl) (c_goM pm ho (fun I2 pm2 mq xq s2 => ⟨rfl, ?_⟩))
          refine Zp.aload_n k_192_29 rfl ?_
          refine Zp.iload_n k_192_30 rfl ?_
          refine Zp.iload_n k_192_31 rfl ?_
          refine Zp.callv2I v_163 k_192_32 m_93 (Nat.le_of_ble_eq_true rfl) (Nat.le_of_ble_eq_true rfl) (c_feelsM mq so (by omega) (by omega) ⟨_, rfl, ?_⟩)
          refine Zp.aload_n k_192_35 rfl ?_
          refine Zp.iload_n k_192_36 rfl ?_
          refine Zp.iload_n k_192_37 rfl ?_
          refine Zp.callv2I v_163 k_192_38 m_93 (Nat.le_of_ble_eq_true rfl) (Nat.le_of_ble_eq_true rfl) (c_feelsM mq so (by omega) (by omega) ⟨_, rfl, ?_⟩)
          refine Zp.aload_n k_192_41 rfl ?_
          refine Zp.iload_n k_192_42 rfl ?_
          refine Zp.iload_n k_192_43 rfl ?_
          refine Zp.callv2I v_163 k_192_44 m_93 (Nat.le_of_ble_eq_true rfl) (Nat.le_of_ble_eq_true rfl) (c_feelsM mq so (by omega) (by omega) ⟨_, rfl, ?_⟩)
          refine Zp.calls2I vs_164 k_192_47 (Nat.le_of_ble_eq_true rfl) (Nat.le_of_ble_eq_true rfl) (c_leastM (by omega) (by omega) ⟨_, rfl, ?_⟩)
          refine Zp.calls2I vs_164 k_192_50 (Nat.le_of_ble_eq_true rfl) (Nat.le_of_ble_eq_true rfl) (c_leastM (by omega) (by omega) ⟨_, rfl, ?_⟩)
          refine Zp.istore [some (.ref _), some (.int _), some (.int _), some (.int _), some (.int _), none] k_192_53 (Nat.lt_of_lt_of_eq (zlt rfl : 4 < 6) vl_192.symm) rfl ?_
          refine Zp.aload_n k_192_55 rfl ?_
          refine Zp.iload_n k_192_56 rfl ?_
          refine Zp.iload_n k_192_57 rfl ?_
          refine Zp.callv2I v_163 k_192_58 m_93 (Nat.le_of_ble_eq_true rfl) (Nat.le_of_ble_eq_true rfl) (c_feelsM mq so (by omega) (by omega) ⟨_, rfl, ?_⟩)
          refine Zp.aload_n k_192_61 rfl ?_
          refine Zp.iload_n k_192_62 rfl ?_
          refine Zp.iload_n k_192_63 rfl ?_
          refine Zp.callv2I v_163 k_192_64 m_93 (Nat.le_of_ble_eq_true rfl) (Nat.le_of_ble_eq_true rfl) (c_feelsM mq so (by omega) (by omega) ⟨_, rfl, ?_⟩)
          refine Zp.aload_n k_192_67 rfl ?_
          refine Zp.iload_n k_192_68 rfl ?_
          refine Zp.iload_n k_192_69 rfl ?_
          refine Zp.callv2I v_163 k_192_70 m_93 (Nat.le_of_ble_eq_true rfl) (Nat.le_of_ble_eq_true rfl) (c_feelsM mq so (by omega) (by omega) ⟨_, rfl, ?_⟩)
          refine Zp.calls2I vs_164 k_192_73 (Nat.le_of_ble_eq_true rfl) (Nat.le_of_ble_eq_true rfl) (c_leastM (by omega) (by omega) ⟨_, rfl, ?_⟩)
          refine Zp.calls2I vs_164 k_192_76 (Nat.le_of_ble_eq_true rfl) (Nat.le_of_ble_eq_true rfl) (c_leastM (by omega) (by omega) ⟨_, rfl, ?_⟩)
          refine Zp.istore [some (.ref _), some (.int _), some (.int _), some (.int _), some (.int _), some (.int _)] k_192_79 (Nat.lt_of_lt_of_eq (zlt rfl : 5 < 6) vl_192.symm) rfl ?_
          refine Zp.iload k_192_81 rfl ?_
          refine Zp.iload k_192_83 rfl ?_
          refine Zp.icmp_leN k_192_85 (by omega) (by omega) (fun c_85 => ?_) (fun c_85 => ?_)
          · refine Zp.iload k_192_93 rfl ?_
            refine Zp.iret _ k_192_95 vr_192 rfl ?_
            exact zqN (hq I2 L pm2 (fun q hq => s2 q (by omega))) (by omega)
          · refine Zp.iload k_192_88 rfl ?_
            refine Zp.goto k_192_90 ?_
            refine Zp.iret _ k_192_95 vr_192 rfl ?_
            exact zqN (hq I2 L pm2 (fun q hq => s2 q (by omega))) (by omega)
    · refine ⟨.int (-1), A, ho, fun I L Q pc hq => ?_, fun I L Q pm hq => ?_⟩
      · obtain ⟨⟨hp, lp, pp, ep⟩, hk, hi0, hi1, ht, hb, hf, hr, hh⟩ := id pc
        refine Zm.go [some (.ref _), some (.int _), some (.int _), some (.int _)] vl_98 rfl ?_
        refine Zp.aload_n k_98_0 rfl ?_
        refine Zp.getR k_98_1 rfl (zlt rfl) m_0 r_0_0 ?_
        refine Zp.getR k_98_4 rfl (zlt rfl) m_1 r_1_0 ?_
        refine Zp.iload_n k_98_7 rfl ?_
        refine Zp.iload_n k_98_8 rfl ?_
        refine Zp.callv2I v_57 k_98_9 m_2 (Nat.le_of_ble_eq_true rfl) (Nat.le_of_ble_eq_true rfl) (c_areTwo sa_2 hp so ⟨_, rfl, ?_⟩)
        refine Zp.if_eqB k_98_12 (fun c_12 => (by first | exact absurd c_12 v | exact absurd v c_12)) (fun c_12 => ?_)
        refine Zp.aload_n k_98_15 rfl ?_
        refine Zp.getR k_98_16 rfl (zlt rfl) m_0 r_0_0 ?_
        refine Zp.getR k_98_19 rfl (zlt rfl) m_1 r_1_0 ?_
        refine Zp.iload_n k_98_22 rfl ?_
        refine Zp.iload_n k_98_23 rfl ?_
        refine Zp.callv2I v_57 k_98_24 m_2 (Nat.le_of_ble_eq_true rfl) (Nat.le_of_ble_eq_true rfl) (c_areTwo sa_2 hp so ⟨_, rfl, ?_⟩)
        refine Zp.if_eqB k_98_27 (fun c_27 => ?_) (fun c_27 => (by first | exact absurd c_27 w | exact absurd w c_27))
        refine Zp.iconst (-1) k_98_45 (by decide) ?_
        refine Zp.iret _ k_98_46 vr_98 rfl ?_
        exact hq I pc (FrC.rf I)
      · obtain ⟨m3, ⟨mp, xp⟩, m4, ms1, ms2, ms3, mk0, mk1, mi0, mi1, mt, mb, mf, mr, mh⟩ := id pm
        refine Zm.go [some (.ref _), some (.int _), some (.int _), some (.int _), none, none] vl_192 rfl ?_
        refine Zp.aload_n k_192_0 rfl ?_
        refine Zp.iload_n k_192_1 rfl ?_
        refine Zp.iload_n k_192_2 rfl ?_
        refine Zp.callv2I v_156 k_192_3 m_93 (Nat.le_of_ble_eq_true rfl) (Nat.le_of_ble_eq_true rfl) (c_areTwoM m3 (by omega) ⟨_, rfl, ?_⟩)
        refine Zp.if_eqB k_192_6 (fun c_6 => (by first | exact absurd c_6 v | exact absurd v c_6)) (fun c_6 => ?_)
        refine Zp.aload_n k_192_9 rfl ?_
        refine Zp.iload_n k_192_10 rfl ?_
        refine Zp.iload_n k_192_11 rfl ?_
        refine Zp.callv2I v_156 k_192_12 m_93 (Nat.le_of_ble_eq_true rfl) (Nat.le_of_ble_eq_true rfl) (c_areTwoM m3 (by omega) ⟨_, rfl, ?_⟩)
        refine Zp.if_eqB k_192_15 (fun c_15 => ?_) (fun c_15 => (by first | exact absurd c_15 w | exact absurd w c_15))
        refine Zp.iconst (-1) k_192_23 (by decide) ?_
        refine Zp.iret _ k_192_24 vr_192 rfl ?_
        first | exact hq I L pm (FrM.rf I) | exact hq I2 L pm2 (fun q hq => s2 q (by omega))
  · refine ⟨.int (-1), A, ho, fun I L Q pc hq => ?_, fun I L Q pm hq => ?_⟩
    · obtain ⟨⟨hp, lp, pp, ep⟩, hk, hi0, hi1, ht, hb, hf, hr, hh⟩ := id pc
      refine Zm.go [some (.ref _), some (.int _), some (.int _), some (.int _)] vl_98 rfl ?_
      refine Zp.aload_n k_98_0 rfl ?_
      refine Zp.getR k_98_1 rfl (zlt rfl) m_0 r_0_0 ?_
      refine Zp.getR k_98_4 rfl (zlt rfl) m_1 r_1_0 ?_
      refine Zp.iload_n k_98_7 rfl ?_
      refine Zp.iload_n k_98_8 rfl ?_
      refine Zp.callv2I v_57 k_98_9 m_2 (Nat.le_of_ble_eq_true rfl) (Nat.le_of_ble_eq_true rfl) (c_areTwo sa_2 hp so ⟨_, rfl, ?_⟩)
      refine Zp.if_eqB k_98_12 (fun c_12 => ?_) (fun c_12 => (by first | exact absurd c_12 v | exact absurd v c_12))
      refine Zp.iconst (-1) k_98_45 (by decide) ?_
      refine Zp.iret _ k_98_46 vr_98 rfl ?_
      exact hq I pc (FrC.rf I)
    · obtain ⟨m3, ⟨mp, xp⟩, m4, ms1, ms2, ms3, mk0, mk1, mi0, mi1, mt, mb, mf, mr, mh⟩ := id pm
      refine Zm.go [some (.ref _), some (.int _), some (.int _), some (.int _), none, none] vl_192 rfl ?_
      refine Zp.aload_n k_192_0 rfl ?_
      refine Zp.iload_n k_192_1 rfl ?_
      refine Zp.iload_n k_192_2 rfl ?_
      refine Zp.callv2I v_156 k_192_3 m_93 (Nat.le_of_ble_eq_true rfl) (Nat.le_of_ble_eq_true rfl) (c_areTwoM m3 (by omega) ⟨_, rfl, ?_⟩)
      refine Zp.if_eqB k_192_6 (fun c_6 => ?_) (fun c_6 => (by first | exact absurd c_6 v | exact absurd v c_6))
      refine Zp.iconst (-1) k_192_23 (by decide) ?_
      refine Zp.iret _ k_192_24 vr_192 rfl ?_
      first | exact hq I L pm (FrM.rf I) | exact hq I2 L pm2 (fun q hq => s2 q (by omega))
theorem B_mate (ho : Ao A) : zBoth G 106 203 [.int x] A := by
  obtain ⟨⟨so, sz, sst, lo, po, eo⟩, ok0, ok1, oi0, oi1, ot, ob, of_, or_, oh⟩ := id ho
  obtain ⟨o1, o2, o3, o4, o5, o6, o7⟩ := id so
  obtain ⟨p1, p2, p3⟩ := id lo
  obtain ⟨u1, u2⟩ := id po
  obtain ⟨e1, e2⟩ := id eo
  by_cases v : 0 ≤ x.toInt ∧ x.toInt < (sn (kS (aK A)) : Int)
  · obtain ⟨a, ha, rfl, ea⟩ := zin_nI v.1 v.2
    refine ⟨.int (mtF (kS (aK A)) a (sn (kS (aK A)))).1, A, ho, fun I L Q pc hq => ?_, fun I L Q pm hq => ?_⟩
    · obtain ⟨⟨hp, lp, pp, ep⟩, hk, hi0, hi1, ht, hb, hf, hr, hh⟩ := id pc
      have loop : ∀ k i, i + k = sn (kS (aK A)) → Zp G 106 24 [some (.ref 0), some (.int (nI a)), some (.int (mtF (kS (aK A)) a i).1), some (.int (mtF (kS (aK A)) a i).2), some (.int (nI i))] [] I L Q := by
        intro k
        induction k with
        | zero =>
          intro i hi
          have e : i = sn (kS (aK A)) := by omega
          subst e
          refine Zp.iload k_106_24 rfl ?_
          refine Zp.aload_n k_106_26 rfl ?_
          refine Zp.getR k_106_27 rfl (zlt rfl) m_0 r_0_0 ?_
          refine Zp.getR k_106_30 rfl (zlt rfl) m_1 r_1_0 ?_
          refine Zp.getV k_106_33 rfl (zlt rfl) m_2 hp.1 ?_
          refine Zp.icmp_geN k_106_36 (by omega) (by omega) (fun c_36 => ?_) (fun c_36 => absurd c_36 (by omega))
          refine Zp.iload_n k_106_85 rfl ?_
          refine Zp.iret _ k_106_86 vr_106 rfl ?_
          exact hq I pc (FrC.rf I)
        | succ k ih =>
          intro i hi
          have hm : mtF (kS (aK A)) a (i + 1) = if ¬ i = a ∧ (mtF (kS (aK A)) a i).2.toInt < (tn (kS (aK A)) a i : Int) then (nI i, nI (tn (kS (aK A)) a i)) else mtF (kS (aK A)) a i := rfl
          have ht := tn_le so a i
          have ih1 := ih (i + 1) (by omega)
          rw [hm] at ih1
          refine Zp.iload k_106_24 rfl ?_
          refine Zp.aload_n k_106_26 rfl ?_
          refine Zp.getR k_106_27 rfl (zlt rfl) m_0 r_0_0 ?_
          refine Zp.getR k_106_30 rfl (zlt rfl) m_1 r_1_0 ?_
          refine Zp.getV k_106_33 rfl (zlt rfl) m_2 hp.1 ?_
          refine Zp.icmp_geN k_106_36 (by omega) (by omega) (fun c_36 => absurd c_36 (by omega)) (fun c_36 => ?_)
          refine Zp.iload k_106_39 rfl ?_
          refine Zp.iload_n k_106_41 rfl ?_
          refine Zp.icmp_eqN k_106_42 (by omega) (by omega) (fun c_42 => ?_) (fun c_42 => ?_)
          · refine Zp.iinc (nI (_ + 1)) [some (.ref _), some (.int _), some (.int _), some (.int _), some (.int _)] k_106_79 rfl (nI_1 _) (Nat.lt_of_lt_of_eq (zlt rfl : 4 < 5) vl_106.symm) rfl ?_
            refine Zp.goto k_106_82 ?_
            first | (rw [if_neg (by omega)] at ih1; exact ih1) | (rw [if_pos (by omega)] at ih1; exact ih1)
          · refine Zp.aload_n k_106_45 rfl ?_
            refine Zp.getR k_106_46 rfl (zlt rfl) m_0 r_0_0 ?_
            refine Zp.getR k_106_49 rfl (zlt rfl) m_1 r_1_0 ?_
            refine Zp.iload_n k_106_52 rfl ?_
            refine Zp.iload k_106_53 rfl ?_
            refine Zp.callv2I v_61 k_106_55 m_2 (Nat.le_of_ble_eq_true rfl) (Nat.le_of_ble_eq_true rfl) (c_turnOf sa_2 hp so (by omega) (by omega) ⟨_, rfl, ?_⟩)
            refine Zp.iload_n k_106_58 rfl ?_
            refine Zp.icmp_leZ _ _ k_106_59 (nI_toInt (by omega)) rfl (fun c_59 => ?_) (fun c_59 => ?_)
            · refine Zp.iinc (nI (_ + 1)) [some (.ref _), some (.int _), some (.int _), some (.int _), some (.int _)] k_106_79 rfl (nI_1 _) (Nat.lt_of_lt_of_eq (zlt rfl : 4 < 5) vl_106.symm) rfl ?_
              refine Zp.goto k_106_82 ?_
              first | (rw [if_neg (by omega)] at ih1; exact ih1) | (rw [if_pos (by omega)] at ih1; exact ih1)
            · refine Zp.iload k_106_62 rfl ?_
              refine Zp.istore_n [some (.ref _), some (.int _), some (.int _), some (.int _), some (.int _)] k_106_64 (Nat.lt_of_lt_of_eq (zlt rfl : 2 < 5) vl_106.symm) rfl ?_
              refine Zp.aload_n k_106_65 rfl ?_
              refine Zp.getR k_106_66 rfl (zlt rfl) m_0 r_0_0 ?_
              refine Zp.getR k_106_69 rfl (zlt rfl) m_1 r_1_0 ?_
              refine Zp.iload_n k_106_72 rfl ?_
              refine Zp.iload k_106_73 rfl ?_
              refine Zp.callv2I v_61 k_106_75 m_2 (Nat.le_of_ble_eq_true rfl) (Nat.le_of_ble_eq_true rfl) (c_turnOf sa_2 hp so (by omega) (by omega) ⟨_, rfl, ?_⟩)
              refine Zp.istore_n [some (.ref _), some (.int _), some (.int _), some (.int _), some (.int _)] k_106_78 (Nat.lt_of_lt_of_eq (zlt rfl : 3 < 5) vl_106.symm) rfl ?_
              refine Zp.iinc (nI (_ + 1)) [some (.ref _), some (.int _), some (.int _), some (.int _), some (.int _)] k_106_79 rfl (nI_1 _) (Nat.lt_of_lt_of_eq (zlt rfl : 4 < 5) vl_106.symm) rfl ?_
              refine Zp.goto k_106_82 ?_
              first | (rw [if_neg (by omega)] at ih1; exact ih1) | (rw [if_pos (by omega)] at ih1; exact ih1)
      
      refine Zm.go [some (.ref _), some (.int _), none, none, none] vl_106 rfl ?_
      refine Zp.aload_n k_106_0 rfl ?_
      refine Zp.getR k_106_1 rfl (zlt rfl) m_0 r_0_0 ?_
      refine Zp.getR k_106_4 rfl (zlt rfl) m_1 r_1_0 ?_
      refine Zp.iload_n k_106_7 rfl ?_
      refine Zp.callv1I v_56 k_106_8 m_2 (Nat.le_of_ble_eq_true rfl) (Nat.le_of_ble_eq_true rfl) (c_isHelper sa_2 hp so ⟨_, rfl, ?_⟩)
      refine Zp.if_neB k_106_11 (fun c_11 => ?_) (fun c_11 => absurd c_11 (by omega))
      refine Zp.bipush (-4) k_106_16 (by decide) ?_
      refine Zp.istore_n [some (.ref _), some (.int _), some (.int _), none, none] k_106_18 (Nat.lt_of_lt_of_eq (zlt rfl : 2 < 5) vl_106.symm) rfl ?_
      refine Zp.iconst (-1) k_106_19 (by decide) ?_
      refine Zp.istore_n [some (.ref _), some (.int _), some (.int _), some (.int _), none] k_106_20 (Nat.lt_of_lt_of_eq (zlt rfl : 3 < 5) vl_106.symm) rfl ?_
      refine Zp.iconst (nI 0) k_106_21 (by decide) ?_
      refine Zp.istore [some (.ref _), some (.int _), some (.int _), some (.int _), some (.int _)] k_106_22 (Nat.lt_of_lt_of_eq (zlt rfl : 4 < 5) vl_106.symm) rfl ?_
      exact loop (sn (kS (aK A))) 0 (by omega)
    · obtain ⟨m3, ⟨mp, xp⟩, m4, ms1, ms2, ms3, mk0, mk1, mi0, mi1, mt, mb, mf, mr, mh⟩ := id pm
      have loop : ∀ k i (I1 : zI) (u5 : Option Value), PicM A I1 → Mp (I1 95) (kS (aK A)) → FrM I I1 → i + k = sn (kS (aK A)) → Zp G 203 22 [some (.ref 93), some (.int (nI a)), some (.int (mtF (kS (aK A)) a i).2), some (.int (mtF (kS (aK A)) a i).1), some (.int (nI i)), none] [] I1 L Q := by
        intro k
        induction k with
        | zero =>
          intro i I1 u5 pm1 mq1 f1 hi
          have e : i = sn (kS (aK A)) := by omega
          subst e
          refine Zp.iload k_203_22 rfl ?_
          refine Zp.aload_n k_203_24 rfl ?_
          refine Zp.getV k_203_25 rfl (zlt rfl) m_93 pm1.1 ?_
          refine Zp.icmp_geN k_203_28 (by omega) (by omega) (fun c_28 => ?_) (fun c_28 => absurd c_28 (by omega))
          refine Zp.iload_n k_203_82 rfl ?_
          refine Zp.iret _ k_203_83 vr_203 rfl ?_
          exact hq I1 L pm1 f1
        | succ k ih =>
          intro i I1 u5 pm1 mq1 f1 hi
          have hm : mtF (kS (aK A)) a (i + 1) = if ¬ i = a ∧ (mtF (kS (aK A)) a i).2.toInt < (tn (kS (aK A)) a i : Int) then (nI i, nI (tn (kS (aK A)) a i)) else mtF (kS (aK A)) a i := rfl
          have ht := tn_le so a i
          have hg := mtF_ge so a i
          have ih1 := ih (i + 1) I1 none pm1 mq1 f1 (by omega)
          rw [hm] at ih1
          have lc5 : ∀ (v1 v2 v3 v4 v5 v6 : Value) (j : Nat) (u : Value), ([some v1, some v2, some v3, some v4, some v5, none] : List (Option Value))[j]? = some (some u) → ([some v1, some v2, some v3, some v4, some v5, some v6] : List (Option Value))[j]? = some (some u) := by
            intro v1 v2 v3 v4 v5 v6 j u hj
            match j, hj with
            | 0, hj => exact hj
            | 1, hj => exact hj
            | 2, hj => exact hj
            | 3, hj => exact hj
            | 4, hj => exact hj
            | 5, hj => exact absurd hj (by simp)
            | _ + 6, hj => exact absurd hj (by simp)
          refine Zp.iload k_203_22 rfl ?_
          refine Zp.aload_n k_203_24 rfl ?_
          refine Zp.getV k_203_25 rfl (zlt rfl) m_93 pm1.1 ?_
          refine Zp.icmp_geN k_203_28 (by omega) (by omega) (fun c_28 => absurd c_28 (by omega)) (fun c_28 => ?_)
          refine Zp.iload k_203_31 rfl ?_
          refine Zp.iload_n k_203_33 rfl ?_
          refine Zp.icmp_neN k_203_34 (by omega) (by omega) (fun c_34 => ?_) (fun c_34 => ?_)
          · refine Zp.aload_n k_203_41 rfl ?_
            refine Zp.iload_n k_203_42 rfl ?_
            refine Zp.iload k_203_43 rfl ?_
            refine Zp.callv2I v_165 k_203_45 m_93 (Nat.le_of_ble_eq_true rfl) (Nat.le_of_ble_eq_true rfl) (c_turnOfM mq1 so (by omega) (by omega) ⟨_, rfl, ?_⟩)
            refine Zp.istore [some (.ref _), some (.int _), some (.int _), some (.int _), some (.int _), some (.int _)] k_203_48 (Nat.lt_of_lt_of_eq (zlt rfl : 5 < 6) vl_203.symm) rfl ?_
            refine Zp.iload k_203_50 rfl ?_
            refine Zp.iload_n k_203_52 rfl ?_
            refine Zp.icmp_leZ _ _ k_203_53 (nI_toInt (by omega)) rfl (fun c_53 => ?_) (fun c_53 => ?_)
            · refine Zp.iload_n k_203_61 rfl ?_
              refine Zp.istore_n [some (.ref _), some (.int _), some (.int _), some (.int _), some (.int _), some (.int _)] k_203_62 (Nat.lt_of_lt_of_eq (zlt rfl : 3 < 6) vl_203.symm) rfl ?_
              refine Zp.iload k_203_63 rfl ?_
              refine Zp.iload_n k_203_65 rfl ?_
              refine Zp.icmp_leZ _ _ k_203_66 (nI_toInt (by omega)) rfl (fun c_66 => ?_) (fun c_66 => ?_)
              · refine Zp.iload_n k_203_74 rfl ?_
                refine Zp.istore_n [some (.ref _), some (.int _), some (.int _), some (.int _), some (.int _), some (.int _)] k_203_75 (Nat.lt_of_lt_of_eq (zlt rfl : 2 < 6) vl_203.symm) rfl ?_
                refine Zp.iinc (nI (_ + 1)) [some (.ref _), some (.int _), some (.int _), some (.int _), some (.int _), some (.int _)] k_203_76 rfl (nI_1 _) (Nat.lt_of_lt_of_eq (zlt rfl : 4 < 6) vl_203.symm) rfl ?_
                refine Zp.goto k_203_79 ?_
                first | (rw [if_neg (by omega)] at ih1; exact Zp.locs _ (lc5 _ _ _ _ _ _) ih1) | (rw [if_pos (by omega)] at ih1; exact Zp.locs _ (lc5 _ _ _ _ _ _) ih1) | (exfalso; omega)
              · refine Zp.iload k_203_69 rfl ?_
                refine Zp.goto k_203_71 ?_
                refine Zp.istore_n [some (.ref _), some (.int _), some (.int _), some (.int _), some (.int _), some (.int _)] k_203_75 (Nat.lt_of_lt_of_eq (zlt rfl : 2 < 6) vl_203.symm) rfl ?_
                refine Zp.iinc (nI (_ + 1)) [some (.ref _), some (.int _), some (.int _), some (.int _), some (.int _), some (.int _)] k_203_76 rfl (nI_1 _) (Nat.lt_of_lt_of_eq (zlt rfl : 4 < 6) vl_203.symm) rfl ?_
                refine Zp.goto k_203_79 ?_
                first | (rw [if_neg (by omega)] at ih1; exact Zp.locs _ (lc5 _ _ _ _ _ _) ih1) | (rw [if_pos (by omega)] at ih1; exact Zp.locs _ (lc5 _ _ _ _ _ _) ih1) | (exfalso; omega)
            · refine Zp.iload k_203_56 rfl ?_
              refine Zp.goto k_203_58 ?_
              refine Zp.istore_n [some (.ref _), some (.int _), some (.int _), some (.int _), some (.int _), some (.int _)] k_203_62 (Nat.lt_of_lt_of_eq (zlt rfl : 3 < 6) vl_203.symm) rfl ?_
              refine Zp.iload k_203_63 rfl ?_
              refine Zp.iload_n k_203_65 rfl ?_
              refine Zp.icmp_leZ _ _ k_203_66 (nI_toInt (by omega)) rfl (fun c_66 => ?_) (fun c_66 => ?_)
              · refine Zp.iload_n k_203_74 rfl ?_
                refine Zp.istore_n [some (.ref _), some (.int _), some (.int _), some (.int _), some (.int _), some (.int _)] k_203_75 (Nat.lt_of_lt_of_eq (zlt rfl : 2 < 6) vl_203.symm) rfl ?_
                refine Zp.iinc (nI (_ + 1)) [some (.ref _), some (.int _), some (.int _), some (.int _), some (.int _), some (.int _)] k_203_76 rfl (nI_1 _) (Nat.lt_of_lt_of_eq (zlt rfl : 4 < 6) vl_203.symm) rfl ?_
                refine Zp.goto k_203_79 ?_
                first | (rw [if_neg (by omega)] at ih1; exact Zp.locs _ (lc5 _ _ _ _ _ _) ih1) | (rw [if_pos (by omega)] at ih1; exact Zp.locs _ (lc5 _ _ _ _ _ _) ih1) | (exfalso; omega)
              · refine Zp.iload k_203_69 rfl ?_
                refine Zp.goto k_203_71 ?_
                refine Zp.istore_n [some (.ref _), some (.int _), some (.int _), some (.int _), some (.int _), some (.int _)] k_203_75 (Nat.lt_of_lt_of_eq (zlt rfl : 2 < 6) vl_203.symm) rfl ?_
                refine Zp.iinc (nI (_ + 1)) [some (.ref _), some (.int _), some (.int _), some (.int _), some (.int _), some (.int _)] k_203_76 rfl (nI_1 _) (Nat.lt_of_lt_of_eq (zlt rfl : 4 < 6) vl_203.symm) rfl ?_
                refine Zp.goto k_203_79 ?_
                first | (rw [if_neg (by omega)] at ih1; exact Zp.locs _ (lc5 _ _ _ _ _ _) ih1) | (rw [if_pos (by omega)] at ih1; exact Zp.locs _ (lc5 _ _ _ _ _ _) ih1) | (exfalso; omega)
          · refine Zp.iconst (-1) k_203_37 (by decide) ?_
            refine Zp.goto k_203_38 ?_
            refine Zp.istore [some (.ref _), some (.int _), some (.int _), some (.int _), some (.int _), some (.int _)] k_203_48 (Nat.lt_of_lt_of_eq (zlt rfl : 5 < 6) vl_203.symm) rfl ?_
            refine Zp.iload k_203_50 rfl ?_
            refine Zp.iload_n k_203_52 rfl ?_
            refine Zp.icmp_leZ (-1) _ k_203_53 (by decide) rfl (fun c_53 => ?_) (fun c_53 => ?_)
            · refine Zp.iload_n k_203_61 rfl ?_
              refine Zp.istore_n [some (.ref _), some (.int _), some (.int _), some (.int _), some (.int _), some (.int _)] k_203_62 (Nat.lt_of_lt_of_eq (zlt rfl : 3 < 6) vl_203.symm) rfl ?_
              refine Zp.iload k_203_63 rfl ?_
              refine Zp.iload_n k_203_65 rfl ?_
              refine Zp.icmp_leZ (-1) _ k_203_66 (by decide) rfl (fun c_66 => ?_) (fun c_66 => ?_)
              · refine Zp.iload_n k_203_74 rfl ?_
                refine Zp.istore_n [some (.ref _), some (.int _), some (.int _), some (.int _), some (.int _), some (.int _)] k_203_75 (Nat.lt_of_lt_of_eq (zlt rfl : 2 < 6) vl_203.symm) rfl ?_
                refine Zp.iinc (nI (_ + 1)) [some (.ref _), some (.int _), some (.int _), some (.int _), some (.int _), some (.int _)] k_203_76 rfl (nI_1 _) (Nat.lt_of_lt_of_eq (zlt rfl : 4 < 6) vl_203.symm) rfl ?_
                refine Zp.goto k_203_79 ?_
                first | (rw [if_neg (by omega)] at ih1; exact Zp.locs _ (lc5 _ _ _ _ _ _) ih1) | (rw [if_pos (by omega)] at ih1; exact Zp.locs _ (lc5 _ _ _ _ _ _) ih1) | (exfalso; omega)
              · refine Zp.iload k_203_69 rfl ?_
                refine Zp.goto k_203_71 ?_
                refine Zp.istore_n [some (.ref _), some (.int _), some (.int _), some (.int _), some (.int _), some (.int _)] k_203_75 (Nat.lt_of_lt_of_eq (zlt rfl : 2 < 6) vl_203.symm) rfl ?_
                refine Zp.iinc (nI (_ + 1)) [some (.ref _), some (.int _), some (.int _), some (.int _), some (.int _), some (.int _)] k_203_76 rfl (nI_1 _) (Nat.lt_of_lt_of_eq (zlt rfl : 4 < 6) vl_203.symm) rfl ?_
                refine Zp.goto k_203_79 ?_
                first | (rw [if_neg (by omega)] at ih1; exact Zp.locs _ (lc5 _ _ _ _ _ _) ih1) | (rw [if_pos (by omega)] at ih1; exact Zp.locs _ (lc5 _ _ _ _ _ _) ih1) | (exfalso; omega)
            · refine Zp.iload k_203_56 rfl ?_
              refine Zp.goto k_203_58 ?_
              refine Zp.istore_n [some (.ref _), some (.int _), some (.int _), some (.int _), some (.int _), some (.int _)] k_203_62 (Nat.lt_of_lt_of_eq (zlt rfl : 3 < 6) vl_203.symm) rfl ?_
              refine Zp.iload k_203_63 rfl ?_
              refine Zp.iload_n k_203_65 rfl ?_
              refine Zp.icmp_leZ (-1) _ k_203_66 (by decide) rfl (fun c_66 => ?_) (fun c_66 => ?_)
              · refine Zp.iload_n k_203_74 rfl ?_
                refine Zp.istore_n [some (.ref _), some (.int _), some (.int _), some (.int _), some (.int _), some (.int _)] k_203_75 (Nat.lt_of_lt_of_eq (zlt rfl : 2 < 6) vl_203.symm) rfl ?_
                refine Zp.iinc (nI (_ + 1)) [some (.ref _), some (.int _), some (.int _), some (.int _), some (.int _), some (.int _)] k_203_76 rfl (nI_1 _) (Nat.lt_of_lt_of_eq (zlt rfl : 4 < 6) vl_203.symm) rfl ?_
                refine Zp.goto k_203_79 ?_
                first | (rw [if_neg (by omega)] at ih1; exact Zp.locs _ (lc5 _ _ _ _ _ _) ih1) | (rw [if_pos (by omega)] at ih1; exact Zp.locs _ (lc5 _ _ _ _ _ _) ih1) | (exfalso; omega)
              · refine Zp.iload k_203_69 rfl ?_
                refine Zp.goto k_203_71 ?_
                refine Zp.istore_n [some (.ref _), some (.int _), some (.int _), some (.int _), some (.int _), some (.int _)] k_203_75 (Nat.lt_of_lt_of_eq (zlt rfl : 2 < 6) vl_203.symm) rfl ?_
                refine Zp.iinc (nI (_ + 1)) [some (.ref _), some (.int _), some (.int _), some (.int _), some (.int _), some (.int _)] k_203_76 rfl (nI_1 _) (Nat.lt_of_lt_of_eq (zlt rfl : 4 < 6) vl_203.symm) rfl ?_
                refine Zp.goto k_203_79 ?_
                first | (rw [if_neg (by omega)] at ih1; exact Zp.locs _ (lc5 _ _ _ _ _ _) ih1) | (rw [if_pos (by omega)] at ih1; exact Zp.locs _ (lc5 _ _ _ _ _ _) ih1) | (exfalso; omega)
      
      refine Zm.go [some (.ref _), some (.int _), none, none, none, none] vl_203 rfl ?_
      refine Zp.aload_n k_203_0 rfl ?_
      refine Zp.iload_n k_203_1 rfl ?_
      refine Zp.callv1I v_155 k_203_2 m_93 (Nat.le_of_ble_eq_true rfl) (Nat.le_of_ble_eq_true rfl) (c_isHelperM m3 (by omega) ⟨_, rfl, ?_⟩)
      refine Zp.if_neB k_203_5 (fun c_5 => ?_) (fun c_5 => absurd c_5 (by omega))
      refine Zp.iconst (-1) k_203_10 (by decide) ?_
      refine Zp.istore_n [some (.ref _), some (.int _), some (.int _), none, none, none] k_203_11 (Nat.lt_of_lt_of_eq (zlt rfl : 2 < 6) vl_203.symm) rfl ?_
      refine Zp.bipush (-4) k_203_12 (by decide) ?_
      refine Zp.istore_n [some (.ref _), some (.int _), some (.int _), some (.int _), none, none] k_203_14 (Nat.lt_of_lt_of_eq (zlt rfl : 3 < 6) vl_203.symm) rfl ?_
      refine Zp.aload_n k_203_15 rfl ?_
      refine Zp.callv0V v_159 k_203_16 m_93 (Nat.le_of_ble_eq_true rfl) (Nat.le_of_ble_eq_true rfl) (c_goM pm ho (fun I2 pm2 mq xq s2 => ⟨rfl, ?_⟩))
      refine Zp.iconst (nI 0) k_203_19 (by decide) ?_
      refine Zp.istore [some (.ref _), some (.int _), some (.int _), some (.int _), some (.int _), none] k_203_20 (Nat.lt_of_lt_of_eq (zlt rfl : 4 < 6) vl_203.symm) rfl ?_
      exact loop (sn (kS (aK A))) 0 I2 none pm2 mq (fun q h => s2 q (by omega)) (by omega)
  · refine ⟨.int (-1), A, ho, fun I L Q pc hq => ?_, fun I L Q pm hq => ?_⟩
    · obtain ⟨⟨hp, lp, pp, ep⟩, hk, hi0, hi1, ht, hb, hf, hr, hh⟩ := id pc
      refine Zm.go [some (.ref _), some (.int _), none, none, none] vl_106 rfl ?_
      refine Zp.aload_n k_106_0 rfl ?_
      refine Zp.getR k_106_1 rfl (zlt rfl) m_0 r_0_0 ?_
      refine Zp.getR k_106_4 rfl (zlt rfl) m_1 r_1_0 ?_
      refine Zp.iload_n k_106_7 rfl ?_
      refine Zp.callv1I v_56 k_106_8 m_2 (Nat.le_of_ble_eq_true rfl) (Nat.le_of_ble_eq_true rfl) (c_isHelper sa_2 hp so ⟨_, rfl, ?_⟩)
      refine Zp.if_neB k_106_11 (fun c_11 => absurd c_11 (by omega)) (fun c_11 => ?_)
      refine Zp.iconst (-1) k_106_14 (by decide) ?_
      refine Zp.iret _ k_106_15 vr_106 rfl ?_
      exact hq I pc (FrC.rf I)
    · obtain ⟨m3, ⟨mp, xp⟩, m4, ms1, ms2, ms3, mk0, mk1, mi0, mi1, mt, mb, mf, mr, mh⟩ := id pm
      refine Zm.go [some (.ref _), some (.int _), none, none, none, none] vl_203 rfl ?_
      refine Zp.aload_n k_203_0 rfl ?_
      refine Zp.iload_n k_203_1 rfl ?_
      refine Zp.callv1I v_155 k_203_2 m_93 (Nat.le_of_ble_eq_true rfl) (Nat.le_of_ble_eq_true rfl) (c_isHelperM m3 (by omega) ⟨_, rfl, ?_⟩)
      refine Zp.if_neB k_203_5 (fun c_5 => absurd c_5 (by omega)) (fun c_5 => ?_)
      refine Zp.iconst (-1) k_203_8 (by decide) ?_
      refine Zp.iret _ k_203_9 vr_203 rfl ?_
      first | exact hq I L pm (FrM.rf I) | exact hq I2 L pm2 (fun q hq => s2 q (by omega))
theorem B_count (ho : Ao A) : zBoth G 128 228 [.int x] A := by
  obtain ⟨⟨so, sz, sst, lo, po, eo⟩, ok0, ok1, oi0, oi1, ot, ob, of_, or_, oh⟩ := id ho
  obtain ⟨o1, o2, o3, o4, o5, o6, o7⟩ := id so
  obtain ⟨p1, p2, p3⟩ := id lo
  obtain ⟨u1, u2⟩ := id po
  obtain ⟨e1, e2⟩ := id eo
  by_cases v : 0 ≤ x.toInt ∧ x.toInt < ((5 : Nat) : Int)
  · obtain ⟨c, hc, rfl, ec⟩ := zin_nI v.1 v.2
    rcases (by omega : c = 0 ∨ c = 1 ∨ c = 2 ∨ c = 3 ∨ c = 4) with rfl | rfl | rfl | rfl | rfl
    · refine ⟨.int (nI (sm (sht (kS (aK A))) 25)), A, ho, fun I L Q pc hq => ?_, fun I L Q pm hq => ?_⟩
      · obtain ⟨⟨hp, lp, pp, ep⟩, hk, hi0, hi1, ht, hb, hf, hr, hh⟩ := id pc
        refine Zm.go [some (.ref _), some (.int _)] vl_128 rfl ?_
        refine Zp.iload_n k_128_0 rfl ?_
        refine Zp.tabEq 0 0 36 k_128_1 (by decide) (by decide) (by decide) rfl (by decide) (fun _ => ?_) (fun n => absurd rfl n)
        refine Zp.aload_n k_128_36 rfl ?_
        refine Zp.getR k_128_37 rfl (zlt rfl) m_0 r_0_0 ?_
        refine Zp.getR k_128_40 rfl (zlt rfl) m_1 r_1_0 ?_
        refine Zp.callv0I v_67 k_128_43 m_2 (Nat.le_of_ble_eq_true rfl) (Nat.le_of_ble_eq_true rfl) (c_allHatred sa_2 hp so ⟨_, rfl, ?_⟩)
        refine Zp.iret _ k_128_46 vr_128 rfl ?_
        first | exact hq I pc (FrC.rf I) | exact zqN (hq I pc (FrC.rf I)) (by unfold bc2; omega)
      · obtain ⟨m3, ⟨mp, xp⟩, m4, ms1, ms2, ms3, mk0, mk1, mi0, mi1, mt, mb, mf, mr, mh⟩ := id pm
        refine Zm.go [some (.ref _), some (.int _)] vl_228 rfl ?_
        refine Zp.aload_n k_228_0 rfl ?_
        refine Zp.callv0V v_159 k_228_1 m_93 (Nat.le_of_ble_eq_true rfl) (Nat.le_of_ble_eq_true rfl) (c_goM pm ho (fun I2 pm2 mq xq s2 => ⟨rfl, ?_⟩))
        refine Zp.iload_n k_228_4 rfl ?_
        refine Zp.tabEq 0 0 40 k_228_5 (by decide) (by decide) (by decide) rfl (by decide) (fun _ => ?_) (fun n => absurd rfl n)
        refine Zp.aload_n k_228_40 rfl ?_
        refine Zp.callv0I v_170 k_228_41 m_93 (Nat.le_of_ble_eq_true rfl) (Nat.le_of_ble_eq_true rfl) (c_allHateM mq so ⟨_, rfl, ?_⟩)
        refine Zp.iret _ k_228_44 vr_228 rfl ?_
        first | exact hq I L pm (FrM.rf I) | exact hq I2 L pm2 (fun q hq => s2 q (by omega))
    · refine ⟨.int (nI (kE (aK A)).1), A, ho, fun I L Q pc hq => ?_, fun I L Q pm hq => ?_⟩
      · obtain ⟨⟨hp, lp, pp, ep⟩, hk, hi0, hi1, ht, hb, hf, hr, hh⟩ := id pc
        refine Zm.go [some (.ref _), some (.int _)] vl_128 rfl ?_
        refine Zp.iload_n k_128_0 rfl ?_
        refine Zp.tabEq 1 1 47 k_128_1 (by decide) (by decide) (by decide) rfl (by decide) (fun _ => ?_) (fun n => absurd rfl n)
        refine Zp.aload_n k_128_47 rfl ?_
        refine Zp.getR k_128_48 rfl (zlt rfl) m_0 r_0_0 ?_
        refine Zp.getR k_128_51 rfl (zlt rfl) m_1 r_1_3 ?_
        refine Zp.getV k_128_54 rfl (zlt rfl) m_11 ep.1 ?_
        refine Zp.iret _ k_128_57 vr_128 rfl ?_
        first | exact hq I pc (FrC.rf I) | exact zqN (hq I pc (FrC.rf I)) (by unfold bc2; omega)
      · obtain ⟨m3, ⟨mp, xp⟩, m4, ms1, ms2, ms3, mk0, mk1, mi0, mi1, mt, mb, mf, mr, mh⟩ := id pm
        refine Zm.go [some (.ref _), some (.int _)] vl_228 rfl ?_
        refine Zp.aload_n k_228_0 rfl ?_
        refine Zp.callv0V v_159 k_228_1 m_93 (Nat.le_of_ble_eq_true rfl) (Nat.le_of_ble_eq_true rfl) (c_goM pm ho (fun I2 pm2 mq xq s2 => ⟨rfl, ?_⟩))
        refine Zp.iload_n k_228_4 rfl ?_
        refine Zp.tabEq 1 1 45 k_228_5 (by decide) (by decide) (by decide) rfl (by decide) (fun _ => ?_) (fun n => absurd rfl n)
        refine Zp.aload_n k_228_45 rfl ?_
        refine Zp.getR k_228_46 rfl (zlt rfl) m_93 r_93_0 ?_
        refine Zp.bipush (nI 45) k_228_49 (by decide) ?_
        refine Zp.iald _ k_228_51 m_94 rfl (by omega) (zlt rfl) pm2.2.1.2.2.2.2.1 ?_
        refine Zp.iret _ k_228_52 vr_228 rfl ?_
        first | exact hq I L pm (FrM.rf I) | exact hq I2 L pm2 (fun q hq => s2 q (by omega))
    · refine ⟨.int (nI (ak0 A + ak1 A)), A, ho, fun I L Q pc hq => ?_, fun I L Q pm hq => ?_⟩
      · obtain ⟨⟨hp, lp, pp, ep⟩, hk, hi0, hi1, ht, hb, hf, hr, hh⟩ := id pc
        refine Zm.go [some (.ref _), some (.int _)] vl_128 rfl ?_
        refine Zp.iload_n k_128_0 rfl ?_
        refine Zp.tabEq 2 2 58 k_128_1 (by decide) (by decide) (by decide) rfl (by decide) (fun _ => ?_) (fun n => absurd rfl n)
        refine Zp.aload_n k_128_58 rfl ?_
        refine Zp.getV k_128_59 rfl (zlt rfl) m_0 hk ?_
        refine Zp.calls1I vs_230 k_128_62 (Nat.le_of_ble_eq_true rfl) (Nat.le_of_ble_eq_true rfl) (c_bitCount (by omega) ⟨_, rfl, ?_⟩)
        refine Zp.iret _ k_128_65 vr_128 rfl ?_
        first | exact hq I pc (FrC.rf I) | exact zqN (hq I pc (FrC.rf I)) (by unfold bc2; omega)
      · obtain ⟨m3, ⟨mp, xp⟩, m4, ms1, ms2, ms3, mk0, mk1, mi0, mi1, mt, mb, mf, mr, mh⟩ := id pm
        refine Zm.go [some (.ref _), some (.int _)] vl_228 rfl ?_
        refine Zp.aload_n k_228_0 rfl ?_
        refine Zp.callv0V v_159 k_228_1 m_93 (Nat.le_of_ble_eq_true rfl) (Nat.le_of_ble_eq_true rfl) (c_goM pm ho (fun I2 pm2 mq xq s2 => ⟨rfl, ?_⟩))
        refine Zp.iload_n k_228_4 rfl ?_
        refine Zp.tabEq 2 2 53 k_228_5 (by decide) (by decide) (by decide) rfl (by decide) (fun _ => ?_) (fun n => absurd rfl n)
        refine Zp.aload_n k_228_53 rfl ?_
        refine Zp.getR k_228_54 rfl (zlt rfl) m_93 r_93_2 ?_
        refine Zp.iconst (nI 0) k_228_57 (by decide) ?_
        refine Zp.zald _ k_228_58 m_96 rfl (by omega) (zlt rfl) pm2.2.2.2.2.2.2.1 ?_
        refine Zp.calls1I vs_132 k_228_59 (Nat.le_of_ble_eq_true rfl) (Nat.le_of_ble_eq_true rfl) (c_flagNM (by omega) ⟨_, rfl, ?_⟩)
        refine Zp.aload_n k_228_62 rfl ?_
        refine Zp.getR k_228_63 rfl (zlt rfl) m_93 r_93_2 ?_
        refine Zp.iconst (nI 1) k_228_66 (by decide) ?_
        refine Zp.zald _ k_228_67 m_96 rfl (by omega) (zlt rfl) pm2.2.2.2.2.2.2.2.1 ?_
        refine Zp.calls1I vs_132 k_228_68 (Nat.le_of_ble_eq_true rfl) (Nat.le_of_ble_eq_true rfl) (c_flagNM (by omega) ⟨_, rfl, ?_⟩)
        refine Zp.iaddN k_228_71 ?_
        refine Zp.iret _ k_228_72 vr_228 rfl ?_
        first | exact hq I L pm (FrM.rf I) | exact hq I2 L pm2 (fun q hq => s2 q (by omega))
    · refine ⟨.int (nI (aT A).1), A, ho, fun I L Q pc hq => ?_, fun I L Q pm hq => ?_⟩
      · obtain ⟨⟨hp, lp, pp, ep⟩, hk, hi0, hi1, ht, hb, hf, hr, hh⟩ := id pc
        refine Zm.go [some (.ref _), some (.int _)] vl_128 rfl ?_
        refine Zp.iload_n k_128_0 rfl ?_
        refine Zp.tabEq 3 3 66 k_128_1 (by decide) (by decide) (by decide) rfl (by decide) (fun _ => ?_) (fun n => absurd rfl n)
        refine Zp.aload_n k_128_66 rfl ?_
        refine Zp.getR k_128_67 rfl (zlt rfl) m_0 r_0_4 ?_
        refine Zp.getV k_128_70 rfl (zlt rfl) m_29 ht ?_
        refine Zp.iret _ k_128_73 vr_128 rfl ?_
        first | exact hq I pc (FrC.rf I) | exact zqN (hq I pc (FrC.rf I)) (by unfold bc2; omega)
      · obtain ⟨m3, ⟨mp, xp⟩, m4, ms1, ms2, ms3, mk0, mk1, mi0, mi1, mt, mb, mf, mr, mh⟩ := id pm
        refine Zm.go [some (.ref _), some (.int _)] vl_228 rfl ?_
        refine Zp.aload_n k_228_0 rfl ?_
        refine Zp.callv0V v_159 k_228_1 m_93 (Nat.le_of_ble_eq_true rfl) (Nat.le_of_ble_eq_true rfl) (c_goM pm ho (fun I2 pm2 mq xq s2 => ⟨rfl, ?_⟩))
        refine Zp.iload_n k_228_4 rfl ?_
        refine Zp.tabEq 3 3 73 k_228_5 (by decide) (by decide) (by decide) rfl (by decide) (fun _ => ?_) (fun n => absurd rfl n)
        refine Zp.aload_n k_228_73 rfl ?_
        refine Zp.getV k_228_74 rfl (zlt rfl) m_93 pm2.2.2.2.2.2.2.2.2.2.2.1 ?_
        refine Zp.iret _ k_228_77 vr_228 rfl ?_
        first | exact hq I L pm (FrM.rf I) | exact hq I2 L pm2 (fun q hq => s2 q (by omega))
    · by_cases w : (aH A 0).1 = 0
      · refine ⟨.int (-4), A, ho, fun I L Q pc hq => ?_, fun I L Q pm hq => ?_⟩
        · obtain ⟨⟨hp, lp, pp, ep⟩, hk, hi0, hi1, ht, hb, hf, hr, hh⟩ := id pc
          have h0 := hh 0 (by decide)
          refine Zm.go [some (.ref _), some (.int _)] vl_128 rfl ?_
          refine Zp.iload_n k_128_0 rfl ?_
          refine Zp.tabEq 4 4 74 k_128_1 (by decide) (by decide) (by decide) rfl (by decide) (fun _ => ?_) (fun n => absurd rfl n)
          refine Zp.aload_n k_128_74 rfl ?_
          refine Zp.getR k_128_75 rfl (zlt rfl) m_0 r_0_8 ?_
          refine Zp.iconst (nI 0) k_128_78 (by decide) ?_
          refine Zp.aald 0 k_128_79 m_58 (by decide) rfl (by decide) (zlt rfl) r_58_0 ?_
          refine Zp.callv0I v_42 k_128_80 m_85 (Nat.le_of_ble_eq_true rfl) (Nat.le_of_ble_eq_true rfl) (c_isNothing m_85 (h0.1 w) ⟨_, rfl, ?_⟩)
          refine Zp.if_eqB k_128_83 (fun c_83 => (by first | exact absurd c_83 trivial | exact absurd trivial c_83)) (fun c_83 => ?_)
          refine Zp.bipush (-4) k_128_86 (by decide) ?_
          refine Zp.goto k_128_88 ?_
          refine Zp.iret _ k_128_100 vr_128 rfl ?_
          exact hq I pc (FrC.rf I)
        · obtain ⟨m3, ⟨mp, xp⟩, m4, ms1, ms2, ms3, mk0, mk1, mi0, mi1, mt, mb, mf, mr, mh⟩ := id pm
          have h0 := mh 0 (by decide)
          refine Zm.go [some (.ref _), some (.int _)] vl_228 rfl ?_
          refine Zp.aload_n k_228_0 rfl ?_
          refine Zp.callv0V v_159 k_228_1 m_93 (Nat.le_of_ble_eq_true rfl) (Nat.le_of_ble_eq_true rfl) (c_goM pm ho (fun I2 pm2 mq xq s2 => ⟨rfl, ?_⟩))
          refine Zp.iload_n k_228_4 rfl ?_
          refine Zp.tabEq 4 4 78 k_228_5 (by decide) (by decide) (by decide) rfl (by decide) (fun _ => ?_) (fun n => absurd rfl n)
          refine Zp.aload_n k_228_78 rfl ?_
          refine Zp.getR k_228_79 rfl (zlt rfl) m_93 r_93_31 ?_
          refine Zp.iconst (nI 0) k_228_82 (by decide) ?_
          refine Zp.iald _ k_228_83 m_107 rfl (by omega) (zlt rfl) ((congrFun (s2 107 (by decide)) 0).trans (h0.1 w)) ?_
          refine Zp.bipush (-4) k_228_84 (by decide) ?_
          refine Zp.icmp_neZ (-4) (-4) k_228_86 (by decide) (by decide) (fun c_86 => absurd c_86 (by omega)) (fun c_86 => ?_)
          refine Zp.bipush (-4) k_228_89 (by decide) ?_
          refine Zp.goto k_228_91 ?_
          refine Zp.iret _ k_228_100 vr_228 rfl ?_
          first | exact hq I L pm (FrM.rf I) | exact hq I2 L pm2 (fun q hq => s2 q (by omega))
      · have z0 := oh 0 (by decide)
        refine ⟨.int (nI (aH A 0).2.1), A, ho, fun I L Q pc hq => ?_, fun I L Q pm hq => ?_⟩
        · obtain ⟨⟨hp, lp, pp, ep⟩, hk, hi0, hi1, ht, hb, hf, hr, hh⟩ := id pc
          have h0 := (hh 0 (by decide)).2 w
          refine Zm.go [some (.ref _), some (.int _)] vl_128 rfl ?_
          refine Zp.iload_n k_128_0 rfl ?_
          refine Zp.tabEq 4 4 74 k_128_1 (by decide) (by decide) (by decide) rfl (by decide) (fun _ => ?_) (fun n => absurd rfl n)
          refine Zp.aload_n k_128_74 rfl ?_
          refine Zp.getR k_128_75 rfl (zlt rfl) m_0 r_0_8 ?_
          refine Zp.iconst (nI 0) k_128_78 (by decide) ?_
          refine Zp.aald 0 k_128_79 m_58 (by decide) rfl (by decide) (zlt rfl) r_58_0 ?_
          refine Zp.callv0I v_42 k_128_80 m_85 (Nat.le_of_ble_eq_true rfl) (Nat.le_of_ble_eq_true rfl) (c_isNothingN m_85 h0.1 (by omega) ⟨_, rfl, ?_⟩)
          refine Zp.if_eqB k_128_83 (fun c_83 => ?_) (fun c_83 => (by first | exact absurd c_83 id | exact absurd id c_83))
          refine Zp.aload_n k_128_91 rfl ?_
          refine Zp.getR k_128_92 rfl (zlt rfl) m_0 r_0_8 ?_
          refine Zp.iconst (nI 0) k_128_95 (by decide) ?_
          refine Zp.aald 0 k_128_96 m_58 (by decide) rfl (by decide) (zlt rfl) r_58_0 ?_
          refine Zp.getV k_128_97 rfl (zlt rfl) m_85 h0.1 ?_
          refine Zp.iret _ k_128_100 vr_128 rfl ?_
          exact hq I pc (FrC.rf I)
        · obtain ⟨m3, ⟨mp, xp⟩, m4, ms1, ms2, ms3, mk0, mk1, mi0, mi1, mt, mb, mf, mr, mh⟩ := id pm
          have h0 := (mh 0 (by decide)).2 w
          refine Zm.go [some (.ref _), some (.int _)] vl_228 rfl ?_
          refine Zp.aload_n k_228_0 rfl ?_
          refine Zp.callv0V v_159 k_228_1 m_93 (Nat.le_of_ble_eq_true rfl) (Nat.le_of_ble_eq_true rfl) (c_goM pm ho (fun I2 pm2 mq xq s2 => ⟨rfl, ?_⟩))
          refine Zp.iload_n k_228_4 rfl ?_
          refine Zp.tabEq 4 4 78 k_228_5 (by decide) (by decide) (by decide) rfl (by decide) (fun _ => ?_) (fun n => absurd rfl n)
          refine Zp.aload_n k_228_78 rfl ?_
          refine Zp.getR k_228_79 rfl (zlt rfl) m_93 r_93_31 ?_
          refine Zp.iconst (nI 0) k_228_82 (by decide) ?_
          refine Zp.iald _ k_228_83 m_107 rfl (by omega) (zlt rfl) ((congrFun (s2 107 (by decide)) 0).trans h0.1) ?_
          refine Zp.bipush (-4) k_228_84 (by decide) ?_
          refine Zp.icmp_neZ _ (-4) k_228_86 (nI_toInt (by omega)) (by decide) (fun c_86 => ?_) (fun c_86 => absurd c_86 (by omega))
          refine Zp.aload_n k_228_94 rfl ?_
          refine Zp.getR k_228_95 rfl (zlt rfl) m_93 r_93_32 ?_
          refine Zp.iconst (nI 0) k_228_98 (by decide) ?_
          refine Zp.iald _ k_228_99 m_108 rfl (by omega) (zlt rfl) ((congrFun (s2 108 (by decide)) 0).trans h0.2.1) ?_
          refine Zp.iret _ k_228_100 vr_228 rfl ?_
          first | exact hq I L pm (FrM.rf I) | exact hq I2 L pm2 (fun q hq => s2 q (by omega))
  · refine ⟨.int (-1), A, ho, fun I L Q pc hq => ?_, fun I L Q pm hq => ?_⟩
    · obtain ⟨⟨hp, lp, pp, ep⟩, hk, hi0, hi1, ht, hb, hf, hr, hh⟩ := id pc
      refine Zm.go [some (.ref _), some (.int _)] vl_128 rfl ?_
      refine Zp.iload_n k_128_0 rfl ?_
      refine Zp.tabNo _ 101 k_128_1 rfl (by omega) (by decide) ?_
      refine Zp.iconst (-1) k_128_101 (by decide) ?_
      refine Zp.iret _ k_128_102 vr_128 rfl ?_
      exact hq I pc (FrC.rf I)
    · obtain ⟨m3, ⟨mp, xp⟩, m4, ms1, ms2, ms3, mk0, mk1, mi0, mi1, mt, mb, mf, mr, mh⟩ := id pm
      refine Zm.go [some (.ref _), some (.int _)] vl_228 rfl ?_
      refine Zp.aload_n k_228_0 rfl ?_
      refine Zp.callv0V v_159 k_228_1 m_93 (Nat.le_of_ble_eq_true rfl) (Nat.le_of_ble_eq_true rfl) (c_goM pm ho (fun I2 pm2 mq xq s2 => ⟨rfl, ?_⟩))
      refine Zp.iload_n k_228_4 rfl ?_
      refine Zp.tabNo _ 101 k_228_5 rfl (by omega) (by decide) ?_
      refine Zp.iconst (-1) k_228_101 (by decide) ?_
      refine Zp.iret _ k_228_102 vr_228 rfl ?_
      first | exact hq I L pm (FrM.rf I) | exact hq I2 L pm2 (fun q hq => s2 q (by omega))
end ASKED2
