/-! THE TEXT: both sides -/
/-- a text that is refused, a text that is taken -/
def wFx (A : zQs) (c : Nat) : zQs := (aK A, a0 A, a1 A, ak0 A, ak1 A, (0, (aT A).2), c, aR A, aH A)
def wTx (A : zQs) (K : zKi) : zQs := (K, a0 A, a1 A, 0, 0, (0, (aT A).2), 0, aR A, aH A)
theorem Ko_of {D : zD} (h : Do D) (hh : dh D ≤ sn (kS (dK D))) : Ko (dK D) := by
  obtain ⟨h1, h2, h3, h4, h5, h6, h7, h8, h9⟩ := h
  exact ⟨h1, fun a b ha hb hz => h3 a b ha hb (by omega), by omega, h4.up hh, h6.up hh, by omega, fun i hi => absurd hi (by omega)⟩
section TEXTB
variable {G : zG} {A : zQs} {I : zI} {L : zJ} {Q : zP}
theorem B_text (ho : Ao A) : zBoth G 76 153 [] A := by
  obtain ⟨⟨so, sz, sst, lo, po, eo⟩, ok0, ok1, oi0, oi1, ot, ob, of_, or_, oh⟩ := id ho
  obtain ⟨o1, o2, o3, o4, o5, o6, o7⟩ := id so
  obtain ⟨p1, p2, p3⟩ := id lo
  obtain ⟨u1, u2⟩ := id po
  obtain ⟨e1, e2⟩ := id eo
  have to : To (aT A) := ⟨ot, ob⟩
  cases hR : prs (aT A) ((aT A).1 + 1) D0 0 0 with
  | inl f =>
    have hf6 : f.1 ≤ 6 := o6_prs _ _ _ _ _ f hR
    refine ⟨.int ((-10) - nI f.2), wFx A f.1, ⟨ho.1, ok0, ok1, oi0, oi1, Nat.zero_le _, fun i hi => absurd hi (Nat.not_lt_zero i), hf6, or_, oh⟩, fun I L Q pc hq => ?_, fun I L Q pm hq => ?_⟩
    · obtain ⟨⟨hp, lp, pp, ep⟩, hk, hi0, hi1, ht, hb, hf, hr, hh⟩ := id pc
      have tp : Tp I (aT A) := ⟨ht, hb⟩
      have bad : ∀ c s I2, (Sum.inl f : Sum zFl (zD × Nat)) = .inl (c, s) → I2 15 2 = nI c → I2 15 3 = nI s → FrA_ I I2 → Zp G 76 7 [some (.ref 0), none] [.int (nI 0)] I2 L Q := by
        intro c s I2 he b2 b3 f2
        have e1 : f.1 = c := congrArg Prod.fst (Sum.inl.inj he)
        have e2 : f.2 = s := congrArg Prod.snd (Sum.inl.inj he)
        rw [e1, e2] at hq
        refine Zp.istore_n [some (.ref _), some (.int _)] k_76_7 (Nat.lt_of_lt_of_eq (zlt rfl : 1 < 2) vl_76.symm) rfl ?_
        refine Zp.aload_n k_76_8 rfl ?_
        refine Zp.getR k_76_9 rfl (zlt rfl) m_0 r_0_4 ?_
        refine Zp.iconst (nI 0) k_76_12 (by decide) ?_
        refine Zp.putI k_76_13 rfl (zlt rfl) m_29 ?_
        refine Zp.aload_n k_76_16 rfl ?_
        refine Zp.aload_n k_76_17 rfl ?_
        refine Zp.getR k_76_18 rfl (zlt rfl) m_0 r_0_3 ?_
        refine Zp.getV k_76_21 rfl (zlt rfl) m_15 ((congrFun (zpu_q I2 _ _ (by decide)) _).trans b2) ?_
        refine Zp.putI k_76_24 rfl (zlt rfl) m_0 ?_
        refine Zp.iload_n k_76_27 rfl ?_
        refine Zp.if_neN k_76_28 (by omega) (fun c => absurd c (by decide)) (fun _ => ?_)
        refine Zp.bipush (-10) k_76_31 (by decide) ?_
        refine Zp.aload_n k_76_33 rfl ?_
        refine Zp.getR k_76_34 rfl (zlt rfl) m_0 r_0_3 ?_
        refine Zp.getV k_76_37 rfl (zlt rfl) m_15 ((congrFun ((zpu_q _ _ _ (by decide)).trans (zpu_q I2 _ _ (by decide))) _).trans b3) ?_
        refine Zp.isub k_76_40 ?_
        refine Zp.iret _ k_76_41 vr_76 rfl ?_
        have e : ∀ q, q ≠ 0 → q ≠ 29 → (q < 15 ∨ 29 < q) → zpu (zpu I2 29 1 (nI 0)) 0 9 (nI c) q = I q := fun q a b d => by rw [zpu_q _ _ _ a, zpu_q _ _ _ b]; exact f2.1 q d
        refine hq _ ⟨pc.1.fr fun q a b => e q (by omega) (by omega) (by omega), ?_, fun z => (hi0 z).fr fun q a b => e q (by omega) (by omega) (by omega), fun z => (hi1 z).fr fun q a b => e q (by omega) (by omega) (by omega), ?_, fun i hi => absurd hi (Nat.not_lt_zero i), ?_, ?_, fun k hk => ?_⟩ (fun q h => e q (by omega) (by omega) (by omega))
        · rw [zpu_k _ _ _ (by decide), zpu_q _ _ _ (by decide), f2.1 0 (by omega)]; exact hk
        · rw [zpu_q _ _ _ (by decide), zpu_s]; rfl
        · rw [zpu_s, ← e1]; rfl
        · rw [zpu_k _ _ _ (by decide), zpu_q _ _ _ (by decide), f2.1 0 (by omega)]; exact hr
        · have := hh k hk
          unfold Hc at this ⊢
          rw [e (85 + 2 * k) (by omega) (by omega) (by omega), e (86 + 2 * k) (by omega) (by omega) (by omega)]
          exact this
      refine Zm.go [some (.ref _), none] vl_76 rfl ?_
      refine Zp.aload_n k_76_0 rfl ?_
      refine Zp.getR k_76_1 rfl (zlt rfl) m_0 r_0_3 ?_
      refine Zp.callv0I v_14 k_76_4 m_15 (Nat.le_of_ble_eq_true rfl) (Nat.le_of_ble_eq_true rfl) (c_readAllC tp to (fun c s I2 he b2 b3 f2 => ⟨_, rfl, bad c s I2 (hR.symm.trans he) b2 b3 f2⟩) (fun D n I2 he => absurd (hR.symm.trans he) (by simp)))
      
    · obtain ⟨m3, ⟨mp, xp⟩, m4, ms1, ms2, ms3, mk0, mk1, mi0, mi1, mt, mb, mf, mr, mh⟩ := id pm
      have tp : TpM I (aT A) := ⟨mt, mb⟩
      refine c_textM tp to (fun c s I2 he h23 h18 fq fj => ?_) (fun D n I2 he => absurd (hR.symm.trans he) (by simp))
      have he2 := hR.symm.trans he
      have e1 : f.1 = c := congrArg Prod.fst (Sum.inl.inj he2)
      have e2 : f.2 = s := congrArg Prod.snd (Sum.inl.inj he2)
      rw [← e2]
      refine hq I2 L ⟨by rw [fj 3 (by omega)]; exact m3, by rw [fq 94 (by decide) (by omega)]; exact ⟨mp, xp⟩, by rw [fj 4 (by omega)]; exact m4, by rw [fq 97 (by decide) (by omega)]; exact ms1, by rw [fq 98 (by decide) (by omega)]; exact ms2, by rw [fq 99 (by decide) (by omega)]; exact ms3, by rw [fq 96 (by decide) (by omega)]; exact mk0, by rw [fq 96 (by decide) (by omega)]; exact mk1, by rw [fq 94 (by decide) (by omega)]; exact mi0, by rw [fq 94 (by decide) (by omega)]; exact mi1, h18, fun i hi => absurd hi (Nat.not_lt_zero i), by rw [h23, ← e1]; rfl, by rw [fj 34 (by omega)]; exact mr, fun k hk => ?_⟩ (fun q h => fq q (by omega) (by omega))
      have := mh k hk
      unfold Hm at this ⊢
      rw [fq 107 (by decide) (by omega), fq 108 (by decide) (by omega), fq 109 (by decide) (by omega)]
      exact this
  | inr y =>
    have hDo : ∀ D n, prs (aT A) ((aT A).1 + 1) D0 0 0 = .inr (D, n) → Ko (dK D) := by
      have all : ∀ k D p n D' n', p ≤ (aT A).1 → Do D → prs (aT A) k D p n = .inr (D', n') → Do D' ∧ dh D' ≤ sn (kS (dK D')) := by
        intro k
        induction k with
        | zero => intro D p n D' n' _ _ h; exact absurd h (by simp [prs])
        | succ k ih =>
          intro D p n D' n' hp do_ h
          have hu : prs (aT A) (k + 1) D p n = if (tok (aT A) p).1 = 3 then (if dh D ≤ sn (kS (dK D)) then .inr (D, n) else .inl (6, (tok (aT A) p).2.1)) else sbd (lnS (aT A) D (tok (aT A) p)) fun y => prs (aT A) k y.1 y.2 (n + 1) := rfl
          rw [hu] at h
          split at h
          · split at h
            · rename_i z
              have e := Sum.inr.inj h
              have e1 : D = D' := congrArg Prod.fst e
              rw [← e1]
              exact ⟨do_, z⟩
            · exact absurd h (by simp)
          · obtain ⟨y, h1, h2⟩ := sbd_inv h
            have lo := lnS_ok hp do_ h1
            exact ih y.1 y.2 (n + 1) D' n' lo.2.2 lo.1 h2
      intro D n h
      have := all _ _ _ _ D n (Nat.zero_le _) D0_o h
      exact Ko_of this.1 this.2
    have ko := hDo y.1 y.2 hR
    refine ⟨.int (nI y.2), wTx A (dK y.1), ⟨ko, Nat.zero_le _, Nat.zero_le _, fun z => absurd z (show ¬ 0 = 1 by decide), fun z => absurd z (show ¬ 0 = 1 by decide), Nat.zero_le _, fun i hi => absurd hi (Nat.not_lt_zero i), Nat.zero_le _, or_, oh⟩, fun I L Q pc hq => ?_, fun I L Q pm hq => ?_⟩
    · obtain ⟨⟨hp, lp, pp, ep⟩, hk, hi0, hi1, ht, hb, hf, hr, hh⟩ := id pc
      have tp : Tp I (aT A) := ⟨ht, hb⟩
      have ok : ∀ D n I2, (Sum.inr y : Sum zFl (zD × Nat)) = .inr (D, n) → DC I2 D → I2 15 1 = nI n → I2 15 2 = nI 0 → FrA_ I I2 → Zp G 76 7 [some (.ref 0), none] [.int (nI 1)] I2 L Q := by
        intro D n I2 he dc b1 b2 f2
        have e1 : y.1 = D := congrArg Prod.fst (Sum.inr.inj he)
        have e2 : y.2 = n := congrArg Prod.snd (Sum.inr.inj he)
        rw [e1] at ko
        rw [e1, e2] at hq
        have kp2 : Kp (zpu (zpu I2 29 1 (nI 0)) 0 9 (nI 0)) 16 (dK D) := dc.1.fr fun q a b => by rw [zpu_q _ _ _ (by omega), zpu_q _ _ _ (by omega)]
        refine Zp.istore_n [some (.ref _), some (.int _)] k_76_7 (Nat.lt_of_lt_of_eq (zlt rfl : 1 < 2) vl_76.symm) rfl ?_
        refine Zp.aload_n k_76_8 rfl ?_
        refine Zp.getR k_76_9 rfl (zlt rfl) m_0 r_0_4 ?_
        refine Zp.iconst (nI 0) k_76_12 (by decide) ?_
        refine Zp.putI k_76_13 rfl (zlt rfl) m_29 ?_
        refine Zp.aload_n k_76_16 rfl ?_
        refine Zp.aload_n k_76_17 rfl ?_
        refine Zp.getR k_76_18 rfl (zlt rfl) m_0 r_0_3 ?_
        refine Zp.getV k_76_21 rfl (zlt rfl) m_15 ((congrFun (zpu_q I2 _ _ (by decide)) _).trans b2) ?_
        refine Zp.putI k_76_24 rfl (zlt rfl) m_0 ?_
        refine Zp.iload_n k_76_27 rfl ?_
        refine Zp.if_neN k_76_28 (by omega) (fun _ => ?_) (fun c => absurd c (by decide))
        refine Zp.aload_n k_76_42 rfl ?_
        refine Zp.getR k_76_43 rfl (zlt rfl) m_0 r_0_0 ?_
        refine Zp.aload_n k_76_46 rfl ?_
        refine Zp.getR k_76_47 rfl (zlt rfl) m_0 r_0_3 ?_
        refine Zp.getR k_76_50 rfl (zlt rfl) m_15 r_15_0 ?_
        refine Zp.callv1V v_1 k_76_53 m_1 (Nat.le_of_ble_eq_true rfl) (Nat.le_of_ble_eq_true rfl) (c_Kitchen_copyFrom ka_1 ka_16 (by omega) kp2 ko (fun I3 kp3 f3 => ⟨rfl, ?_⟩))
        refine Zp.aload_n k_76_56 rfl ?_
        refine Zp.iconst (nI 0) k_76_57 (by decide) ?_
        refine Zp.putI k_76_58 rfl (zlt rfl) m_0 ?_
        have g15 : zpu I3 0 2 (nI 0) 15 1 = nI n := by rw [zpu_q _ _ _ (by decide), f3 15 (by omega), zpu_q _ _ _ (by decide), zpu_q _ _ _ (by decide)]; exact b1
        refine Zp.aload_n k_76_61 rfl ?_
        refine Zp.getR k_76_62 rfl (zlt rfl) m_0 r_0_3 ?_
        refine Zp.getV k_76_65 rfl (zlt rfl) m_15 g15 ?_
        refine Zp.iret _ k_76_68 vr_76 rfl ?_
        have e : ∀ q, q ≠ 0 → q ≠ 29 → (q < 2 ∨ 13 < q) → (q < 15 ∨ 29 < q) → zpu I3 0 2 (nI 0) q = I q := fun q a b d d2 => by rw [zpu_q _ _ _ a, f3 q (by omega), zpu_q _ _ _ a, zpu_q _ _ _ b]; exact f2.1 q d2
        refine hq _ ⟨kp3.fr fun q a b => zpu_q _ _ _ (by omega), zpu_s _ _ _ _, fun z => absurd z (show ¬ 0 = 1 by decide), fun z => absurd z (show ¬ 0 = 1 by decide), ?_, fun i hi => absurd hi (Nat.not_lt_zero i), ?_, ?_, fun k hk => ?_⟩ (fun q h => e q (by omega) (by omega) (by omega) (by omega))
        · rw [zpu_q _ _ _ (by decide), f3 29 (by omega), zpu_q _ _ _ (by decide), zpu_s]; rfl
        · rw [zpu_k _ _ _ (by decide), f3 0 (by omega), zpu_s]; rfl
        · rw [zpu_k _ _ _ (by decide), f3 0 (by omega), zpu_k _ _ _ (by decide), zpu_q _ _ _ (by decide), f2.1 0 (by omega)]; exact hr
        · have := hh k hk
          unfold Hc at this ⊢
          rw [e (85 + 2 * k) (by omega) (by omega) (by omega) (by omega), e (86 + 2 * k) (by omega) (by omega) (by omega) (by omega)]
          exact this
      refine Zm.go [some (.ref _), none] vl_76 rfl ?_
      refine Zp.aload_n k_76_0 rfl ?_
      refine Zp.getR k_76_1 rfl (zlt rfl) m_0 r_0_3 ?_
      refine Zp.callv0I v_14 k_76_4 m_15 (Nat.le_of_ble_eq_true rfl) (Nat.le_of_ble_eq_true rfl) (c_readAllC tp to (fun c s I2 he => absurd (hR.symm.trans he) (by simp)) (fun D n I2 he dc b1 b2 _ _ _ f2 => ⟨_, rfl, ok D n I2 (hR.symm.trans he) dc b1 b2 f2⟩))
      
    · obtain ⟨m3, ⟨mp, xp⟩, m4, ms1, ms2, ms3, mk0, mk1, mi0, mi1, mt, mb, mf, mr, mh⟩ := id pm
      have tp : TpM I (aT A) := ⟨mt, mb⟩
      refine c_textM tp to (fun c s I2 he => absurd (hR.symm.trans he) (by simp)) (fun D n I2 he k0 k3 k4 k7 k8 k9 k60 k61 h23 h18 fq fj => ?_)
      have he2 := hR.symm.trans he
      have e1 : y.1 = D := congrArg Prod.fst (Sum.inr.inj he2)
      have e2 : y.2 = n := congrArg Prod.snd (Sum.inr.inj he2)
      rw [← e2]
      rw [← e1] at k0 k3 k4 k7 k8 k9
      refine hq I2 L ⟨k3, k0, k4, k7, k8, k9, k60, k61, fun z => absurd z (show ¬ 0 = 1 by decide), fun z => absurd z (show ¬ 0 = 1 by decide), h18, fun i hi => absurd hi (Nat.not_lt_zero i), h23, by rw [fj 34 (by omega)]; exact mr, fun k hk => ?_⟩ (fun q h => fq q (by omega) (by omega))
      have := mh k hk
      unfold Hm at this ⊢
      rw [fq 107 (by decide) (by omega), fq 108 (by decide) (by omega), fq 109 (by decide) (by omega)]
      exact this
end TEXTB
