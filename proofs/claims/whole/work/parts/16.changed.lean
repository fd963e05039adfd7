/-! WHAT IS CHANGED: both sides answer alike -/
def sUkd (S : zSo) (a v : Nat) : zSo := (sn S, sneed S, snoon S, sstep S, sdone S, sset S, va_up (skd S) a v, sht S)
def sUneed (S : zSo) (v : Nat) : zSo := (sn S, v, snoon S, sstep S, sdone S, sset S, skd S, sht S)
def sUnoon (S : zSo) (v : Nat) : zSo := (sn S, sneed S, v, sstep S, sdone S, sset S, skd S, sht S)
theorem Sp.ukd {I : zI} {h a v : Nat} {S : zSo} (hp : Sp I h S) : Sp (zpu I (h + 1) a (nI v)) h (sUkd S a v) := by
  obtain ⟨p0, p1, p2, p3, p4, p5, p6, p7⟩ := hp
  have e0 : zpu I (h + 1) a (nI v) h = I h := zpu_q _ _ _ (by omega)
  have e2 : zpu I (h + 1) a (nI v) (h + 2) = I (h + 2) := zpu_q _ _ _ (by omega)
  refine ⟨by rw [e0]; exact p0, by rw [e0]; exact p1, by rw [e0]; exact p2, by rw [e0]; exact p3, by rw [e0]; exact p4, by rw [e0]; exact p5, fun c hc => ?_, fun j hj => by rw [e2]; exact p7 j hj⟩
  show _ = nI (va_up (skd S) a v c)
  by_cases e : c = a
  · subst e; rw [zpu_s, va_up_s]
  · rw [zpu_k _ _ _ e, va_up_n _ _ e]; exact p6 c hc
theorem Sp.uneed {I : zI} {h v : Nat} {S : zSo} (hp : Sp I h S) : Sp (zpu I h 1 (nI v)) h (sUneed S v) := by
  obtain ⟨p0, p1, p2, p3, p4, p5, p6, p7⟩ := hp
  have e1 : zpu I h 1 (nI v) (h + 1) = I (h + 1) := zpu_q _ _ _ (by omega)
  have e2 : zpu I h 1 (nI v) (h + 2) = I (h + 2) := zpu_q _ _ _ (by omega)
  exact ⟨by rw [zpu_k _ _ _ (by decide)]; exact p0, zpu_s _ _ _ _, by rw [zpu_k _ _ _ (by decide)]; exact p2, by rw [zpu_k _ _ _ (by decide)]; exact p3, by rw [zpu_k _ _ _ (by decide)]; exact p4, by rw [zpu_k _ _ _ (by decide)]; exact p5, fun a ha => by rw [e1]; exact p6 a ha, fun j hj => by rw [e2]; exact p7 j hj⟩
theorem Sp.unoon {I : zI} {h v : Nat} {S : zSo} (hp : Sp I h S) : Sp (zpu I h 2 (nI v)) h (sUnoon S v) := by
  obtain ⟨p0, p1, p2, p3, p4, p5, p6, p7⟩ := hp
  have e1 : zpu I h 2 (nI v) (h + 1) = I (h + 1) := zpu_q _ _ _ (by omega)
  have e2 : zpu I h 2 (nI v) (h + 2) = I (h + 2) := zpu_q _ _ _ (by omega)
  exact ⟨by rw [zpu_k _ _ _ (by decide)]; exact p0, by rw [zpu_k _ _ _ (by decide)]; exact p1, zpu_s _ _ _ _, by rw [zpu_k _ _ _ (by decide)]; exact p3, by rw [zpu_k _ _ _ (by decide)]; exact p4, by rw [zpu_k _ _ _ (by decide)]; exact p5, fun a ha => by rw [e1]; exact p6 a ha, fun j hj => by rw [e2]; exact p7 j hj⟩
theorem So.ukd {S : zSo} (h : So S) {a v : Nat} (hv : v ≤ 3) : So (sUkd S a v) := by
  obtain ⟨o1, o2, o3, o4, o5, o6, o7⟩ := h
  refine ⟨o1, o2, o3, o4, o5, fun i => ?_, o7⟩
  show va_up (skd S) a v i ≤ 3
  unfold va_up
  split
  · exact hv
  · exact o6 i
/-- a change of the reference's soup alone -/
theorem PicM.soup {A : zQs} {I I' : zI} {S : zSo} (h : PicM A I) (ho : Ao A) (hn : sn S = sn (kS (aK A))) (hm : Mp (I' 94) S) (hi : ∀ j, 35 ≤ j → I' 94 j = I 94 j) (e : ∀ q, q ≠ 94 → q ≠ 95 → I' q = I q) : PicM (wK A (S, (aK A).2)) I' :=
  h.st ho (Kl.uS hn) (h.2.1.uS ho.1 hm fun j hj _ => hi j hj) (fun j hj => hi j (by omega)) e
/-- a bit more among six -/
def bOr (u i : Nat) : Nat := if u / 2 ^ i % 2 = 1 then u else u + 2 ^ i
theorem bOr_at {u i : Nat} (hu : u < 64) (hi : i < 6) : (nI u ||| (nI 1 <<< (nI i &&& 31))) = nI (bOr u i) ∧ bOr u i < 64 := by
  have h : ∀ u, u < 64 → ∀ i, i < 6 → (nI u ||| (nI 1 <<< (nI i &&& 31))) = nI (bOr u i) ∧ bOr u i < 64 := by decide +kernel
  exact h u hu i hi
section CHANGED0
variable {G : zG} {I : zI} {L : zJ} {Q : zP} {S : zSo}
/-- the reference begins: its working row is what is now -/
theorem c_goS {A : zQs} (pm : PicM A I) (ho : Ao A) (hq : ∀ I', PicM A I' → Mp (I' 95) (kS (aK A)) → Xp (I' 95) (lu (kP (aK A))) (kU (aK A)) (kE (aK A)) → (∀ j, j < 58 → I' 95 j = I' 94 j) → (∀ q, q ≠ 95 → I' q = I q) → Q none I' L) : Zm G 159 [.ref 93] I L Q :=
  c_startsM fun I' s1 s2 => by
    have k : Km (I' 95) (aK A) := pm.2.1.fr ho.1 s1
    exact hq I' (pm.at s2) k.1 k.2 (fun j hj => by rw [s1 j hj, s2 94 (by decide)]) s2
theorem c_changeNeed {c : Nat} (hp : Sp I 2 S) (hq : Q (some (.int (nI (sneed S)))) (zpu I 2 1 (nI c)) L) : Zm G 89 [.ref 0, .int (nI c)] I L Q := by
  refine Zm.go [some (.ref _), some (.int _), none] vl_89 rfl ?_
  refine Zp.aload_n k_89_0 rfl ?_
  refine Zp.getR k_89_1 rfl (zlt rfl) m_0 r_0_0 ?_
  refine Zp.getR k_89_4 rfl (zlt rfl) m_1 r_1_0 ?_
  refine Zp.getV k_89_7 rfl (zlt rfl) m_2 hp.2.1 ?_
  refine Zp.istore_n [some (.ref _), some (.int _), some (.int _)] k_89_10 (Nat.lt_of_lt_of_eq (zlt rfl : 2 < 3) vl_89.symm) rfl ?_
  refine Zp.aload_n k_89_11 rfl ?_
  refine Zp.getR k_89_12 rfl (zlt rfl) m_0 r_0_0 ?_
  refine Zp.getR k_89_15 rfl (zlt rfl) m_1 r_1_0 ?_
  refine Zp.iload_n k_89_18 rfl ?_
  refine Zp.putI k_89_19 rfl (zlt rfl) m_2 ?_
  refine Zp.iload_n k_89_22 rfl ?_
  refine Zp.iret _ k_89_23 vr_89 rfl ?_
  exact hq
theorem c_changeNoon {c : Nat} (hp : Sp I 2 S) (so : So S) (hc : c < 2 ^ 20) (hs : sstep S ≤ c) (hq : Q (some (.int (nI (snoon S)))) (zpu I 2 2 (nI c)) L) : Zm G 90 [.ref 0, .int (nI c)] I L Q := by
  refine Zm.go [some (.ref _), some (.int _), none] vl_90 rfl ?_
  refine Zp.aload_n k_90_0 rfl ?_
  refine Zp.getR k_90_1 rfl (zlt rfl) m_0 r_0_0 ?_
  refine Zp.getR k_90_4 rfl (zlt rfl) m_1 r_1_0 ?_
  refine Zp.getV k_90_7 rfl (zlt rfl) m_2 hp.2.2.2.1 ?_
  refine Zp.iload_n k_90_10 rfl ?_
  refine Zp.icmp_leN k_90_11 (by omega) (by omega) (fun c_11 => ?_) (fun c_11 => absurd c_11 (by omega))
  refine Zp.aload_n k_90_17 rfl ?_
  refine Zp.getR k_90_18 rfl (zlt rfl) m_0 r_0_0 ?_
  refine Zp.getR k_90_21 rfl (zlt rfl) m_1 r_1_0 ?_
  refine Zp.getV k_90_24 rfl (zlt rfl) m_2 hp.2.2.1 ?_
  refine Zp.istore_n [some (.ref _), some (.int _), some (.int _)] k_90_27 (Nat.lt_of_lt_of_eq (zlt rfl : 2 < 3) vl_90.symm) rfl ?_
  refine Zp.aload_n k_90_28 rfl ?_
  refine Zp.getR k_90_29 rfl (zlt rfl) m_0 r_0_0 ?_
  refine Zp.getR k_90_32 rfl (zlt rfl) m_1 r_1_0 ?_
  refine Zp.iload_n k_90_35 rfl ?_
  refine Zp.putI k_90_36 rfl (zlt rfl) m_2 ?_
  refine Zp.iload_n k_90_39 rfl ?_
  refine Zp.iret _ k_90_40 vr_90 rfl ?_
  exact hq
theorem c_changeNoonNo {c : Nat} (hp : Sp I 2 S) (so : So S) (hb : sstep S < 2 ^ 20) (hs : c < sstep S) (hq : Q (some (.int (-2))) I L) : Zm G 90 [.ref 0, .int (nI c)] I L Q := by
  refine Zm.go [some (.ref _), some (.int _), none] vl_90 rfl ?_
  refine Zp.aload_n k_90_0 rfl ?_
  refine Zp.getR k_90_1 rfl (zlt rfl) m_0 r_0_0 ?_
  refine Zp.getR k_90_4 rfl (zlt rfl) m_1 r_1_0 ?_
  refine Zp.getV k_90_7 rfl (zlt rfl) m_2 hp.2.2.2.1 ?_
  refine Zp.iload_n k_90_10 rfl ?_
  refine Zp.icmp_leN k_90_11 (by omega) (by omega) (fun c_11 => absurd c_11 (by omega)) (fun c_11 => ?_)
  refine Zp.bipush (-2) k_90_14 (by decide) ?_
  refine Zp.iret _ k_90_16 vr_90 rfl ?_
  exact hq
end CHANGED0
section CHANGED
variable {G : zG} {A : zQs} {x y z : Int32}
theorem B_hate (ho : Ao A) : zBoth G 83 178 [.int x, .int y, .int z] A := by
  obtain ⟨⟨so, sz, sst, lo, po, eo⟩, ok0, ok1, oi0, oi1, ot, ob, of_, or_, oh⟩ := id ho
  obtain ⟨o1, o2, o3, o4, o5, o6, o7⟩ := id so
  obtain ⟨p1, p2, p3⟩ := id lo
  obtain ⟨u1, u2⟩ := id po
  obtain ⟨e1, e2⟩ := id eo
  by_cases v : (0 ≤ x.toInt ∧ x.toInt < (sn (kS (aK A)) : Int)) ∧ (0 ≤ y.toInt ∧ y.toInt < (sn (kS (aK A)) : Int)) ∧ ¬ x.toInt = y.toInt
  · by_cases w : 0 ≤ z.toInt ∧ z.toInt ≤ 9
    · obtain ⟨a, ha, rfl, ea⟩ := zin_nI v.1.1 v.1.2
      obtain ⟨b, hb0, rfl, eb⟩ := zin_nI v.2.1.1 v.2.1.2
      obtain ⟨c, hc, rfl, ec⟩ := zin_nI (n := 10) w.1 (by omega)
      refine ⟨.int (nI (sht (kS (aK A)) (a * 5 + b))), wK A (sUh (kS (aK A)) (a * 5 + b) c, (aK A).2), ho.now (ho.1.uS (so.uh (by omega)) (sz.uh o1 ha hb0 (by omega)) rfl sst) (Kl.uS rfl), fun I L Q pc hq => ?_, fun I L Q pm hq => ?_⟩
      · obtain ⟨⟨hp, lp, pp, ep⟩, hk, hi0, hi1, ht, hb, hf, hr, hh⟩ := id pc
        refine Zm.go [some (.ref _), some (.int _), some (.int _), some (.int _), none] vl_83 rfl ?_
        refine Zp.aload_n k_83_0 rfl ?_
        refine Zp.getR k_83_1 rfl (zlt rfl) m_0 r_0_0 ?_
        refine Zp.getR k_83_4 rfl (zlt rfl) m_1 r_1_0 ?_
        refine Zp.iload_n k_83_7 rfl ?_
        refine Zp.iload_n k_83_8 rfl ?_
        refine Zp.callv2I v_57 k_83_9 m_2 (Nat.le_of_ble_eq_true rfl) (Nat.le_of_ble_eq_true rfl) (c_areTwo sa_2 hp so ⟨_, rfl, ?_⟩)
        refine Zp.if_eqB k_83_12 (fun c_12 => absurd c_12 (by omega)) (fun c_12 => ?_)
        refine Zp.iload_n k_83_15 rfl ?_
        refine Zp.iconst (nI 0) k_83_16 (by decide) ?_
        refine Zp.bipush (nI 9) k_83_17 (by decide) ?_
        refine Zp.calls3I vs_129 k_83_19 (Nat.le_of_ble_eq_true rfl) (Nat.le_of_ble_eq_true rfl) (c_isWithin (nI_toInt (by omega)) (nI_toInt (by omega)) (nI_toInt (by omega)) ⟨_, rfl, ?_⟩)
        refine Zp.if_neB k_83_22 (fun c_22 => ?_) (fun c_22 => absurd c_22 (by omega))
        refine Zp.aload_n k_83_27 rfl ?_
        refine Zp.getR k_83_28 rfl (zlt rfl) m_0 r_0_0 ?_
        refine Zp.getR k_83_31 rfl (zlt rfl) m_1 r_1_0 ?_
        refine Zp.iload_n k_83_34 rfl ?_
        refine Zp.iload_n k_83_35 rfl ?_
        refine Zp.callv2I v_58 k_83_36 m_2 (Nat.le_of_ble_eq_true rfl) (Nat.le_of_ble_eq_true rfl) (c_hatredOf sa_2 hp (by omega) (by omega) ⟨_, rfl, ?_⟩)
        refine Zp.istore [some (.ref _), some (.int _), some (.int _), some (.int _), some (.int _)] k_83_39 (Nat.lt_of_lt_of_eq (zlt rfl : 4 < 5) vl_83.symm) rfl ?_
        refine Zp.aload_n k_83_41 rfl ?_
        refine Zp.getR k_83_42 rfl (zlt rfl) m_0 r_0_0 ?_
        refine Zp.getR k_83_45 rfl (zlt rfl) m_1 r_1_0 ?_
        refine Zp.iload_n k_83_48 rfl ?_
        refine Zp.iload_n k_83_49 rfl ?_
        refine Zp.iload_n k_83_50 rfl ?_
        refine Zp.callv3V v_59 k_83_51 m_2 (Nat.le_of_ble_eq_true rfl) (Nat.le_of_ble_eq_true rfl) (c_setHatred sa_2 (by omega) (by omega) ⟨rfl, ?_⟩)
        refine Zp.iload k_83_54 rfl ?_
        refine Zp.iret _ k_83_56 vr_83 rfl ?_
        exact hq _ (pc.soup (hp.uh rfl) (fun q _ _ h4 => zpu_q _ _ _ (by omega))) (fun q h => zpu_q _ _ _ (by omega))
      · obtain ⟨m3, ⟨mp, xp⟩, m4, ms1, ms2, ms3, mk0, mk1, mi0, mi1, mt, mb, mf, mr, mh⟩ := id pm
        refine Zm.go [some (.ref _), some (.int _), some (.int _), some (.int _)] vl_178 rfl ?_
        refine Zp.aload_n k_178_0 rfl ?_
        refine Zp.iload_n k_178_1 rfl ?_
        refine Zp.iload_n k_178_2 rfl ?_
        refine Zp.callv2I v_156 k_178_3 m_93 (Nat.le_of_ble_eq_true rfl) (Nat.le_of_ble_eq_true rfl) (c_areTwoM m3 (by omega) ⟨_, rfl, ?_⟩)
        refine Zp.if_eqB k_178_6 (fun c_6 => absurd c_6 (by omega)) (fun c_6 => ?_)
        refine Zp.iload_n k_178_9 rfl ?_
        refine Zp.i2l k_178_10 ?_
        refine Zp.lconst (lN 0) k_178_11 (by decide) ?_
        refine Zp.ldc2 (lN 9) k_178_12 (by decide) ?_
        refine Zp.calls3I vs_131 k_178_15 (Nat.le_of_ble_eq_true rfl) (Nat.le_of_ble_eq_true rfl) (c_in (zi2n (by omega)) (lN_z (by decide)) (lN_z (by decide)) ⟨_, rfl, ?_⟩)
        refine Zp.if_eqB k_178_18 (fun c_18 => absurd c_18 (by omega)) (fun c_18 => ?_)
        refine Zp.aload_n k_178_21 rfl ?_
        refine Zp.iconst (nI 5) k_178_22 (by decide) ?_
        refine Zp.iconst (nI 5) k_178_23 (by decide) ?_
        refine Zp.iload_n k_178_24 rfl ?_
        refine Zp.imulN k_178_25 ?_
        refine Zp.iaddN k_178_26 ?_
        refine Zp.iload_n k_178_27 rfl ?_
        refine Zp.iaddN k_178_28 ?_
        refine Zp.iload_n k_178_29 rfl ?_
        refine Zp.callv2I v_177 k_178_30 m_93 (Nat.le_of_ble_eq_true rfl) (Nat.le_of_ble_eq_true rfl) (c_becomesM (by omega) ⟨_, rfl, ?_⟩)
        refine Zp.goto k_178_33 ?_
        refine Zp.iret _ k_178_37 vr_178 rfl ?_
        exact zqe (hq _ _ (pm.soup ho rfl (mp.uh o1 rfl (by omega) (by omega)) (fun j hj => zpu_k _ _ _ (by omega)) (fun q h _ => zpu_q _ _ _ h)) (fun q h => zpu_q _ _ _ (by omega))) (mp.hh (by omega) (by omega))
    · refine ⟨.int (-1), A, ho, fun I L Q pc hq => ?_, fun I L Q pm hq => ?_⟩
      · obtain ⟨⟨hp, lp, pp, ep⟩, hk, hi0, hi1, ht, hb, hf, hr, hh⟩ := id pc
        refine Zm.go [some (.ref _), some (.int _), some (.int _), some (.int _), none] vl_83 rfl ?_
        refine Zp.aload_n k_83_0 rfl ?_
        refine Zp.getR k_83_1 rfl (zlt rfl) m_0 r_0_0 ?_
        refine Zp.getR k_83_4 rfl (zlt rfl) m_1 r_1_0 ?_
        refine Zp.iload_n k_83_7 rfl ?_
        refine Zp.iload_n k_83_8 rfl ?_
        refine Zp.callv2I v_57 k_83_9 m_2 (Nat.le_of_ble_eq_true rfl) (Nat.le_of_ble_eq_true rfl) (c_areTwo sa_2 hp so ⟨_, rfl, ?_⟩)
        refine Zp.if_eqB k_83_12 (fun c_12 => absurd c_12 (by omega)) (fun c_12 => ?_)
        refine Zp.iload_n k_83_15 rfl ?_
        refine Zp.iconst (nI 0) k_83_16 (by decide) ?_
        refine Zp.bipush (nI 9) k_83_17 (by decide) ?_
        refine Zp.calls3I vs_129 k_83_19 (Nat.le_of_ble_eq_true rfl) (Nat.le_of_ble_eq_true rfl) (c_isWithin rfl (nI_toInt (by omega)) (nI_toInt (by omega)) ⟨_, rfl, ?_⟩)
        refine Zp.if_neB k_83_22 (fun c_22 => absurd c_22 (by omega)) (fun c_22 => ?_)
        refine Zp.iconst (-1) k_83_25 (by decide) ?_
        refine Zp.iret _ k_83_26 vr_83 rfl ?_
        exact hq I pc (FrC.rf I)
      · obtain ⟨m3, ⟨mp, xp⟩, m4, ms1, ms2, ms3, mk0, mk1, mi0, mi1, mt, mb, mf, mr, mh⟩ := id pm
        refine Zm.go [some (.ref _), some (.int _), some (.int _), some (.int _)] vl_178 rfl ?_
        refine Zp.aload_n k_178_0 rfl ?_
        refine Zp.iload_n k_178_1 rfl ?_
        refine Zp.iload_n k_178_2 rfl ?_
        refine Zp.callv2I v_156 k_178_3 m_93 (Nat.le_of_ble_eq_true rfl) (Nat.le_of_ble_eq_true rfl) (c_areTwoM m3 (by omega) ⟨_, rfl, ?_⟩)
        refine Zp.if_eqB k_178_6 (fun c_6 => absurd c_6 (by omega)) (fun c_6 => ?_)
        refine Zp.iload_n k_178_9 rfl ?_
        refine Zp.i2l k_178_10 ?_
        refine Zp.lconst (lN 0) k_178_11 (by decide) ?_
        refine Zp.ldc2 (lN 9) k_178_12 (by decide) ?_
        refine Zp.calls3I vs_131 k_178_15 (Nat.le_of_ble_eq_true rfl) (Nat.le_of_ble_eq_true rfl) (c_in (zi2l _) (lN_z (by decide)) (lN_z (by decide)) ⟨_, rfl, ?_⟩)
        refine Zp.if_eqB k_178_18 (fun c_18 => ?_) (fun c_18 => absurd c_18 (by omega))
        refine Zp.iconst (-1) k_178_36 (by decide) ?_
        refine Zp.iret _ k_178_37 vr_178 rfl ?_
        first | exact hq I L pm (FrM.rf I) | exact hq I2 L pm2 (fun q hq => s2 q (by omega))
  · refine ⟨.int (-1), A, ho, fun I L Q pc hq => ?_, fun I L Q pm hq => ?_⟩
    · obtain ⟨⟨hp, lp, pp, ep⟩, hk, hi0, hi1, ht, hb, hf, hr, hh⟩ := id pc
      refine Zm.go [some (.ref _), some (.int _), some (.int _), some (.int _), none] vl_83 rfl ?_
      refine Zp.aload_n k_83_0 rfl ?_
      refine Zp.getR k_83_1 rfl (zlt rfl) m_0 r_0_0 ?_
      refine Zp.getR k_83_4 rfl (zlt rfl) m_1 r_1_0 ?_
      refine Zp.iload_n k_83_7 rfl ?_
      refine Zp.iload_n k_83_8 rfl ?_
      refine Zp.callv2I v_57 k_83_9 m_2 (Nat.le_of_ble_eq_true rfl) (Nat.le_of_ble_eq_true rfl) (c_areTwo sa_2 hp so ⟨_, rfl, ?_⟩)
      refine Zp.if_eqB k_83_12 (fun c_12 => ?_) (fun c_12 => (by first | exact absurd c_12 v | exact absurd v c_12))
      refine Zp.iconst (-1) k_83_25 (by decide) ?_
      refine Zp.iret _ k_83_26 vr_83 rfl ?_
      exact hq I pc (FrC.rf I)
    · obtain ⟨m3, ⟨mp, xp⟩, m4, ms1, ms2, ms3, mk0, mk1, mi0, mi1, mt, mb, mf, mr, mh⟩ := id pm
      refine Zm.go [some (.ref _), some (.int _), some (.int _), some (.int _)] vl_178 rfl ?_
      refine Zp.aload_n k_178_0 rfl ?_
      refine Zp.iload_n k_178_1 rfl ?_
      refine Zp.iload_n k_178_2 rfl ?_
      refine Zp.callv2I v_156 k_178_3 m_93 (Nat.le_of_ble_eq_true rfl) (Nat.le_of_ble_eq_true rfl) (c_areTwoM m3 (by omega) ⟨_, rfl, ?_⟩)
      refine Zp.if_eqB k_178_6 (fun c_6 => ?_) (fun c_6 => (by first | exact absurd c_6 v | exact absurd v c_6))
      refine Zp.iconst (-1) k_178_36 (by decide) ?_
      refine Zp.iret _ k_178_37 vr_178 rfl ?_
      first | exact hq I L pm (FrM.rf I) | exact hq I2 L pm2 (fun q hq => s2 q (by omega))
theorem B_tell (ho : Ao A) : zBoth G 85 181 [.int x, .int y] A := by
  obtain ⟨⟨so, sz, sst, lo, po, eo⟩, ok0, ok1, oi0, oi1, ot, ob, of_, or_, oh⟩ := id ho
  obtain ⟨o1, o2, o3, o4, o5, o6, o7⟩ := id so
  obtain ⟨p1, p2, p3⟩ := id lo
  obtain ⟨u1, u2⟩ := id po
  obtain ⟨e1, e2⟩ := id eo
  by_cases v : (0 ≤ x.toInt ∧ x.toInt < (sn (kS (aK A)) : Int)) ∧ (0 ≤ y.toInt ∧ y.toInt < (sn (kS (aK A)) : Int)) ∧ ¬ x.toInt = y.toInt
  · obtain ⟨a, ha, rfl, ea⟩ := zin_nI v.1.1 v.1.2
    obtain ⟨b, hb0, rfl, eb⟩ := zin_nI v.2.1.1 v.2.1.2
    have j1 := o7 (a * 5 + b)
    have j2 := o7 (b * 5 + a)
    refine ⟨.int (nI (max (sht (kS (aK A)) (a * 5 + b)) (sht (kS (aK A)) (b * 5 + a)))), wK A (sUh (kS (aK A)) (a * 5 + b) (max (sht (kS (aK A)) (a * 5 + b)) (sht (kS (aK A)) (b * 5 + a))), (aK A).2), ho.now (ho.1.uS (so.uh (by omega)) (sz.uh o1 ha hb0 (by omega)) rfl sst) (Kl.uS rfl), fun I L Q pc hq => ?_, fun I L Q pm hq => ?_⟩
    · obtain ⟨⟨hp, lp, pp, ep⟩, hk, hi0, hi1, ht, hb, hf, hr, hh⟩ := id pc
      refine Zm.go [some (.ref _), some (.int _), some (.int _), none] vl_85 rfl ?_
      refine Zp.aload_n k_85_0 rfl ?_
      refine Zp.getR k_85_1 rfl (zlt rfl) m_0 r_0_0 ?_
      refine Zp.getR k_85_4 rfl (zlt rfl) m_1 r_1_0 ?_
      refine Zp.iload_n k_85_7 rfl ?_
      refine Zp.iload_n k_85_8 rfl ?_
      refine Zp.callv2I v_57 k_85_9 m_2 (Nat.le_of_ble_eq_true rfl) (Nat.le_of_ble_eq_true rfl) (c_areTwo sa_2 hp so ⟨_, rfl, ?_⟩)
      refine Zp.if_neB k_85_12 (fun c_12 => ?_) (fun c_12 => absurd c_12 (by omega))
      refine Zp.aload_n k_85_17 rfl ?_
      refine Zp.getR k_85_18 rfl (zlt rfl) m_0 r_0_0 ?_
      refine Zp.getR k_85_21 rfl (zlt rfl) m_1 r_1_0 ?_
      refine Zp.iload_n k_85_24 rfl ?_
      refine Zp.iload_n k_85_25 rfl ?_
      refine Zp.callv2I v_58 k_85_26 m_2 (Nat.le_of_ble_eq_true rfl) (Nat.le_of_ble_eq_true rfl) (c_hatredOf sa_2 hp (by omega) (by omega) ⟨_, rfl, ?_⟩)
      refine Zp.aload_n k_85_29 rfl ?_
      refine Zp.getR k_85_30 rfl (zlt rfl) m_0 r_0_0 ?_
      refine Zp.getR k_85_33 rfl (zlt rfl) m_1 r_1_0 ?_
      refine Zp.iload_n k_85_36 rfl ?_
      refine Zp.iload_n k_85_37 rfl ?_
      refine Zp.callv2I v_58 k_85_38 m_2 (Nat.le_of_ble_eq_true rfl) (Nat.le_of_ble_eq_true rfl) (c_hatredOf sa_2 hp (by omega) (by omega) ⟨_, rfl, ?_⟩)
      refine Zp.mmaxN k_85_41 (Nat.le_of_ble_eq_true rfl) (by omega) (by omega) ?_
      refine Zp.istore_n [some (.ref _), some (.int _), some (.int _), some (.int _)] k_85_44 (Nat.lt_of_lt_of_eq (zlt rfl : 3 < 4) vl_85.symm) rfl ?_
      refine Zp.aload_n k_85_45 rfl ?_
      refine Zp.getR k_85_46 rfl (zlt rfl) m_0 r_0_0 ?_
      refine Zp.getR k_85_49 rfl (zlt rfl) m_1 r_1_0 ?_
      refine Zp.iload_n k_85_52 rfl ?_
      refine Zp.iload_n k_85_53 rfl ?_
      refine Zp.iload_n k_85_54 rfl ?_
      refine Zp.callv3V v_59 k_85_55 m_2 (Nat.le_of_ble_eq_true rfl) (Nat.le_of_ble_eq_true rfl) (c_setHatred sa_2 (by omega) (by omega) ⟨rfl, ?_⟩)
      refine Zp.iload_n k_85_58 rfl ?_
      refine Zp.iret _ k_85_59 vr_85 rfl ?_
      exact hq _ (pc.soup (hp.uh rfl) (fun q _ _ h4 => zpu_q _ _ _ (by omega))) (fun q h => zpu_q _ _ _ (by omega))
    · obtain ⟨m3, ⟨mp, xp⟩, m4, ms1, ms2, ms3, mk0, mk1, mi0, mi1, mt, mb, mf, mr, mh⟩ := id pm
      refine Zm.go [some (.ref _), some (.int _), some (.int _), none, none] vl_181 rfl ?_
      refine Zp.aload_n k_181_0 rfl ?_
      refine Zp.iload_n k_181_1 rfl ?_
      refine Zp.iload_n k_181_2 rfl ?_
      refine Zp.callv2I v_156 k_181_3 m_93 (Nat.le_of_ble_eq_true rfl) (Nat.le_of_ble_eq_true rfl) (c_areTwoM m3 (by omega) ⟨_, rfl, ?_⟩)
      refine Zp.if_neB k_181_6 (fun c_6 => ?_) (fun c_6 => absurd c_6 (by omega))
      refine Zp.iconst (nI 5) k_181_11 (by decide) ?_
      refine Zp.iconst (nI 5) k_181_12 (by decide) ?_
      refine Zp.iload_n k_181_13 rfl ?_
      refine Zp.imulN k_181_14 ?_
      refine Zp.iaddN k_181_15 ?_
      refine Zp.iload_n k_181_16 rfl ?_
      refine Zp.iaddN k_181_17 ?_
      refine Zp.istore_n [some (.ref _), some (.int _), some (.int _), some (.int _), none] k_181_18 (Nat.lt_of_lt_of_eq (zlt rfl : 3 < 5) vl_181.symm) rfl ?_
      refine Zp.aload_n k_181_19 rfl ?_
      refine Zp.getR k_181_20 rfl (zlt rfl) m_93 r_93_0 ?_
      refine Zp.iconst (nI 5) k_181_23 (by decide) ?_
      refine Zp.iconst (nI 5) k_181_24 (by decide) ?_
      refine Zp.iload_n k_181_25 rfl ?_
      refine Zp.imulN k_181_26 ?_
      refine Zp.iaddN k_181_27 ?_
      refine Zp.iload_n k_181_28 rfl ?_
      refine Zp.iaddN k_181_29 ?_
      refine Zp.iald _ k_181_30 m_94 rfl (by omega) (zlt rfl) (by first | exact mp.2.2.1 | exact mp.2.2.2.1 | exact mp.2.2.2.2.1 | exact mp.2.2.2.2.2.1 | exact mp.2.2.2.2.2.2 | exact xp.1 | exact xp.2.1 | exact xp.2.2.2.1 | exact xp.2.2.1 _ (by omega) | exact xp.2.2.2.2.2 _ (by omega) | exact xp.2.2.2.2.1 _ (by omega) | exact mp.hh (by omega) (by omega) | exact mp.kk (by omega) | exact mp.2.1 _ (by omega)) ?_
      refine Zp.istore [some (.ref _), some (.int _), some (.int _), some (.int _), some (.int _)] k_181_31 (Nat.lt_of_lt_of_eq (zlt rfl : 4 < 5) vl_181.symm) rfl ?_
      refine Zp.aload_n k_181_33 rfl ?_
      refine Zp.getR k_181_34 rfl (zlt rfl) m_93 r_93_0 ?_
      refine Zp.iload_n k_181_37 rfl ?_
      refine Zp.aload_n k_181_38 rfl ?_
      refine Zp.getR k_181_39 rfl (zlt rfl) m_93 r_93_0 ?_
      refine Zp.iload_n k_181_42 rfl ?_
      refine Zp.iald _ k_181_43 m_94 rfl (by omega) (zlt rfl) (by first | exact mp.2.2.1 | exact mp.2.2.2.1 | exact mp.2.2.2.2.1 | exact mp.2.2.2.2.2.1 | exact mp.2.2.2.2.2.2 | exact xp.1 | exact xp.2.1 | exact xp.2.2.2.1 | exact xp.2.2.1 _ (by omega) | exact xp.2.2.2.2.2 _ (by omega) | exact xp.2.2.2.2.1 _ (by omega) | exact mp.hh (by omega) (by omega) | exact mp.kk (by omega) | exact mp.2.1 _ (by omega)) ?_
      refine Zp.iload k_181_44 rfl ?_
      refine Zp.icmp_geN k_181_46 (by omega) (by omega) (fun c_46 => ?_) (fun c_46 => ?_)
      · refine Zp.aload_n k_181_54 rfl ?_
        refine Zp.getR k_181_55 rfl (zlt rfl) m_93 r_93_0 ?_
        refine Zp.iload_n k_181_58 rfl ?_
        refine Zp.iald _ k_181_59 m_94 rfl (by omega) (zlt rfl) (by first | exact mp.2.2.1 | exact mp.2.2.2.1 | exact mp.2.2.2.2.1 | exact mp.2.2.2.2.2.1 | exact mp.2.2.2.2.2.2 | exact xp.1 | exact xp.2.1 | exact xp.2.2.2.1 | exact xp.2.2.1 _ (by omega) | exact xp.2.2.2.2.2 _ (by omega) | exact xp.2.2.2.2.1 _ (by omega) | exact mp.hh (by omega) (by omega) | exact mp.kk (by omega) | exact mp.2.1 _ (by omega)) ?_
        refine Zp.iast _ k_181_60 m_94 rfl (by omega) (zlt rfl) ?_
        refine Zp.aload_n k_181_61 rfl ?_
        refine Zp.getR k_181_62 rfl (zlt rfl) m_93 r_93_0 ?_
        refine Zp.iload_n k_181_65 rfl ?_
        refine Zp.iald _ k_181_66 m_94 rfl (by omega) (zlt rfl) (zpu_s _ _ _ _) ?_
        refine Zp.iret _ k_181_67 vr_181 rfl ?_
        exact zqN (hq _ _ (pm.soup ho rfl (mp.uh o1 (congrArg nI (by omega)) (by omega) (by omega)) (fun j hj => zpu_k _ _ _ (by omega)) (fun q h _ => zpu_q _ _ _ h)) (fun q h => zpu_q _ _ _ (by omega))) (by omega)
      · refine Zp.iload k_181_49 rfl ?_
        refine Zp.goto k_181_51 ?_
        refine Zp.iast _ k_181_60 m_94 rfl (by omega) (zlt rfl) ?_
        refine Zp.aload_n k_181_61 rfl ?_
        refine Zp.getR k_181_62 rfl (zlt rfl) m_93 r_93_0 ?_
        refine Zp.iload_n k_181_65 rfl ?_
        refine Zp.iald _ k_181_66 m_94 rfl (by omega) (zlt rfl) (zpu_s _ _ _ _) ?_
        refine Zp.iret _ k_181_67 vr_181 rfl ?_
        exact zqN (hq _ _ (pm.soup ho rfl (mp.uh o1 (congrArg nI (by omega)) (by omega) (by omega)) (fun j hj => zpu_k _ _ _ (by omega)) (fun q h _ => zpu_q _ _ _ h)) (fun q h => zpu_q _ _ _ (by omega))) (by omega)
  · refine ⟨.int (-1), A, ho, fun I L Q pc hq => ?_, fun I L Q pm hq => ?_⟩
    · obtain ⟨⟨hp, lp, pp, ep⟩, hk, hi0, hi1, ht, hb, hf, hr, hh⟩ := id pc
      refine Zm.go [some (.ref _), some (.int _), some (.int _), none] vl_85 rfl ?_
      refine Zp.aload_n k_85_0 rfl ?_
      refine Zp.getR k_85_1 rfl (zlt rfl) m_0 r_0_0 ?_
      refine Zp.getR k_85_4 rfl (zlt rfl) m_1 r_1_0 ?_
      refine Zp.iload_n k_85_7 rfl ?_
      refine Zp.iload_n k_85_8 rfl ?_
      refine Zp.callv2I v_57 k_85_9 m_2 (Nat.le_of_ble_eq_true rfl) (Nat.le_of_ble_eq_true rfl) (c_areTwo sa_2 hp so ⟨_, rfl, ?_⟩)
      refine Zp.if_neB k_85_12 (fun c_12 => (by first | exact absurd c_12 v | exact absurd v c_12)) (fun c_12 => ?_)
      refine Zp.iconst (-1) k_85_15 (by decide) ?_
      refine Zp.iret _ k_85_16 vr_85 rfl ?_
      exact hq I pc (FrC.rf I)
    · obtain ⟨m3, ⟨mp, xp⟩, m4, ms1, ms2, ms3, mk0, mk1, mi0, mi1, mt, mb, mf, mr, mh⟩ := id pm
      refine Zm.go [some (.ref _), some (.int _), some (.int _), none, none] vl_181 rfl ?_
      refine Zp.aload_n k_181_0 rfl ?_
      refine Zp.iload_n k_181_1 rfl ?_
      refine Zp.iload_n k_181_2 rfl ?_
      refine Zp.callv2I v_156 k_181_3 m_93 (Nat.le_of_ble_eq_true rfl) (Nat.le_of_ble_eq_true rfl) (c_areTwoM m3 (by omega) ⟨_, rfl, ?_⟩)
      refine Zp.if_neB k_181_6 (fun c_6 => (by first | exact absurd c_6 v | exact absurd v c_6)) (fun c_6 => ?_)
      refine Zp.iconst (-1) k_181_9 (by decide) ?_
      refine Zp.iret _ k_181_10 vr_181 rfl ?_
      first | exact hq I L pm (FrM.rf I) | exact hq I2 L pm2 (fun q hq => s2 q (by omega))
theorem B_teach (ho : Ao A) : zBoth G 87 183 [.int x, .int y] A := by
  obtain ⟨⟨so, sz, sst, lo, po, eo⟩, ok0, ok1, oi0, oi1, ot, ob, of_, or_, oh⟩ := id ho
  obtain ⟨o1, o2, o3, o4, o5, o6, o7⟩ := id so
  obtain ⟨p1, p2, p3⟩ := id lo
  obtain ⟨u1, u2⟩ := id po
  obtain ⟨e1, e2⟩ := id eo
  by_cases v : 0 ≤ x.toInt ∧ x.toInt < (sn (kS (aK A)) : Int)
  · by_cases w : 0 ≤ y.toInt ∧ y.toInt ≤ 3
    · obtain ⟨a, ha, rfl, ea⟩ := zin_nI v.1 v.2
      obtain ⟨c, hc, rfl, ec⟩ := zin_nI (n := 4) w.1 (by omega)
      refine ⟨.int (nI (skd (kS (aK A)) a)), wK A (sUkd (kS (aK A)) a c, (aK A).2), ho.now (ho.1.uS (so.ukd (by omega)) sz rfl sst) (Kl.uS rfl), fun I L Q pc hq => ?_, fun I L Q pm hq => ?_⟩
      · obtain ⟨⟨hp, lp, pp, ep⟩, hk, hi0, hi1, ht, hb, hf, hr, hh⟩ := id pc
        refine Zm.go [some (.ref _), some (.int _), some (.int _), none] vl_87 rfl ?_
        refine Zp.aload_n k_87_0 rfl ?_
        refine Zp.getR k_87_1 rfl (zlt rfl) m_0 r_0_0 ?_
        refine Zp.getR k_87_4 rfl (zlt rfl) m_1 r_1_0 ?_
        refine Zp.iload_n k_87_7 rfl ?_
        refine Zp.callv1I v_56 k_87_8 m_2 (Nat.le_of_ble_eq_true rfl) (Nat.le_of_ble_eq_true rfl) (c_isHelper sa_2 hp so ⟨_, rfl, ?_⟩)
        refine Zp.if_eqB k_87_11 (fun c_11 => absurd c_11 (by omega)) (fun c_11 => ?_)
        refine Zp.iload_n k_87_14 rfl ?_
        refine Zp.iconst (nI 0) k_87_15 (by decide) ?_
        refine Zp.iconst (nI 3) k_87_16 (by decide) ?_
        refine Zp.calls3I vs_129 k_87_17 (Nat.le_of_ble_eq_true rfl) (Nat.le_of_ble_eq_true rfl) (c_isWithin (nI_toInt (by omega)) (nI_toInt (by omega)) (nI_toInt (by omega)) ⟨_, rfl, ?_⟩)
        refine Zp.if_neB k_87_20 (fun c_20 => ?_) (fun c_20 => absurd c_20 (by omega))
        refine Zp.aload_n k_87_25 rfl ?_
        refine Zp.getR k_87_26 rfl (zlt rfl) m_0 r_0_0 ?_
        refine Zp.getR k_87_29 rfl (zlt rfl) m_1 r_1_0 ?_
        refine Zp.getR k_87_32 rfl (zlt rfl) m_2 r_2_6 ?_
        refine Zp.iload_n k_87_35 rfl ?_
        refine Zp.iald _ k_87_36 m_3 rfl (by omega) (zlt rfl) (hp.2.2.2.2.2.2.1 _ (by omega)) ?_
        refine Zp.istore_n [some (.ref _), some (.int _), some (.int _), some (.int _)] k_87_37 (Nat.lt_of_lt_of_eq (zlt rfl : 3 < 4) vl_87.symm) rfl ?_
        refine Zp.aload_n k_87_38 rfl ?_
        refine Zp.getR k_87_39 rfl (zlt rfl) m_0 r_0_0 ?_
        refine Zp.getR k_87_42 rfl (zlt rfl) m_1 r_1_0 ?_
        refine Zp.getR k_87_45 rfl (zlt rfl) m_2 r_2_6 ?_
        refine Zp.iload_n k_87_48 rfl ?_
        refine Zp.iload_n k_87_49 rfl ?_
        refine Zp.iast _ k_87_50 m_3 rfl (by omega) (zlt rfl) ?_
        refine Zp.iload_n k_87_51 rfl ?_
        refine Zp.iret _ k_87_52 vr_87 rfl ?_
        exact hq _ (pc.soup hp.ukd (fun q _ h3 _ => zpu_q _ _ _ (by omega))) (fun q h => zpu_q _ _ _ (by omega))
      · obtain ⟨m3, ⟨mp, xp⟩, m4, ms1, ms2, ms3, mk0, mk1, mi0, mi1, mt, mb, mf, mr, mh⟩ := id pm
        refine Zm.go [some (.ref _), some (.int _), some (.int _)] vl_183 rfl ?_
        refine Zp.aload_n k_183_0 rfl ?_
        refine Zp.iload_n k_183_1 rfl ?_
        refine Zp.callv1I v_155 k_183_2 m_93 (Nat.le_of_ble_eq_true rfl) (Nat.le_of_ble_eq_true rfl) (c_isHelperM m3 (by omega) ⟨_, rfl, ?_⟩)
        refine Zp.if_eqB k_183_5 (fun c_5 => absurd c_5 (by omega)) (fun c_5 => ?_)
        refine Zp.iload_n k_183_8 rfl ?_
        refine Zp.i2l k_183_9 ?_
        refine Zp.lconst (lN 0) k_183_10 (by decide) ?_
        refine Zp.ldc2 (lN 3) k_183_11 (by decide) ?_
        refine Zp.calls3I vs_131 k_183_14 (Nat.le_of_ble_eq_true rfl) (Nat.le_of_ble_eq_true rfl) (c_in (zi2n (by omega)) (lN_z (by decide)) (lN_z (by decide)) ⟨_, rfl, ?_⟩)
        refine Zp.if_eqB k_183_17 (fun c_17 => absurd c_17 (by omega)) (fun c_17 => ?_)
        refine Zp.aload_n k_183_20 rfl ?_
        refine Zp.iconst (nI 0) k_183_21 (by decide) ?_
        refine Zp.iload_n k_183_22 rfl ?_
        refine Zp.iaddN k_183_23 ?_
        refine Zp.iload_n k_183_24 rfl ?_
        refine Zp.callv2I v_177 k_183_25 m_93 (Nat.le_of_ble_eq_true rfl) (Nat.le_of_ble_eq_true rfl) (c_becomesM (by omega) ⟨_, rfl, ?_⟩)
        refine Zp.goto k_183_28 ?_
        refine Zp.iret _ k_183_32 vr_183 rfl ?_
        rw [Nat.zero_add]
        exact zqe (hq _ _ (pm.soup ho rfl (mp.ukd o1 rfl (by omega)) (fun j hj => zpu_k _ _ _ (by omega)) (fun q h _ => zpu_q _ _ _ h)) (fun q h => zpu_q _ _ _ (by omega))) (mp.1 _ ha)
    · refine ⟨.int (-1), A, ho, fun I L Q pc hq => ?_, fun I L Q pm hq => ?_⟩
      · obtain ⟨⟨hp, lp, pp, ep⟩, hk, hi0, hi1, ht, hb, hf, hr, hh⟩ := id pc
        refine Zm.go [some (.ref _), some (.int _), some (.int _), none] vl_87 rfl ?_
        refine Zp.aload_n k_87_0 rfl ?_
        refine Zp.getR k_87_1 rfl (zlt rfl) m_0 r_0_0 ?_
        refine Zp.getR k_87_4 rfl (zlt rfl) m_1 r_1_0 ?_
        refine Zp.iload_n k_87_7 rfl ?_
        refine Zp.callv1I v_56 k_87_8 m_2 (Nat.le_of_ble_eq_true rfl) (Nat.le_of_ble_eq_true rfl) (c_isHelper sa_2 hp so ⟨_, rfl, ?_⟩)
        refine Zp.if_eqB k_87_11 (fun c_11 => absurd c_11 (by omega)) (fun c_11 => ?_)
        refine Zp.iload_n k_87_14 rfl ?_
        refine Zp.iconst (nI 0) k_87_15 (by decide) ?_
        refine Zp.iconst (nI 3) k_87_16 (by decide) ?_
        refine Zp.calls3I vs_129 k_87_17 (Nat.le_of_ble_eq_true rfl) (Nat.le_of_ble_eq_true rfl) (c_isWithin rfl (nI_toInt (by omega)) (nI_toInt (by omega)) ⟨_, rfl, ?_⟩)
        refine Zp.if_neB k_87_20 (fun c_20 => absurd c_20 (by omega)) (fun c_20 => ?_)
        refine Zp.iconst (-1) k_87_23 (by decide) ?_
        refine Zp.iret _ k_87_24 vr_87 rfl ?_
        exact hq I pc (FrC.rf I)
      · obtain ⟨m3, ⟨mp, xp⟩, m4, ms1, ms2, ms3, mk0, mk1, mi0, mi1, mt, mb, mf, mr, mh⟩ := id pm
        refine Zm.go [some (.ref _), some (.int _), some (.int _)] vl_183 rfl ?_
        refine Zp.aload_n k_183_0 rfl ?_
        refine Zp.iload_n k_183_1 rfl ?_
        refine Zp.callv1I v_155 k_183_2 m_93 (Nat.le_of_ble_eq_true rfl) (Nat.le_of_ble_eq_true rfl) (c_isHelperM m3 (by omega) ⟨_, rfl, ?_⟩)
        refine Zp.if_eqB k_183_5 (fun c_5 => absurd c_5 (by omega)) (fun c_5 => ?_)
        refine Zp.iload_n k_183_8 rfl ?_
        refine Zp.i2l k_183_9 ?_
        refine Zp.lconst (lN 0) k_183_10 (by decide) ?_
        refine Zp.ldc2 (lN 3) k_183_11 (by decide) ?_
        refine Zp.calls3I vs_131 k_183_14 (Nat.le_of_ble_eq_true rfl) (Nat.le_of_ble_eq_true rfl) (c_in (zi2l _) (lN_z (by decide)) (lN_z (by decide)) ⟨_, rfl, ?_⟩)
        refine Zp.if_eqB k_183_17 (fun c_17 => ?_) (fun c_17 => absurd c_17 (by omega))
        refine Zp.iconst (-1) k_183_31 (by decide) ?_
        refine Zp.iret _ k_183_32 vr_183 rfl ?_
        first | exact hq I L pm (FrM.rf I) | exact hq I2 L pm2 (fun q hq => s2 q (by omega))
  · refine ⟨.int (-1), A, ho, fun I L Q pc hq => ?_, fun I L Q pm hq => ?_⟩
    · obtain ⟨⟨hp, lp, pp, ep⟩, hk, hi0, hi1, ht, hb, hf, hr, hh⟩ := id pc
      refine Zm.go [some (.ref _), some (.int _), some (.int _), none] vl_87 rfl ?_
      refine Zp.aload_n k_87_0 rfl ?_
      refine Zp.getR k_87_1 rfl (zlt rfl) m_0 r_0_0 ?_
      refine Zp.getR k_87_4 rfl (zlt rfl) m_1 r_1_0 ?_
      refine Zp.iload_n k_87_7 rfl ?_
      refine Zp.callv1I v_56 k_87_8 m_2 (Nat.le_of_ble_eq_true rfl) (Nat.le_of_ble_eq_true rfl) (c_isHelper sa_2 hp so ⟨_, rfl, ?_⟩)
      refine Zp.if_eqB k_87_11 (fun c_11 => ?_) (fun c_11 => absurd c_11 (by omega))
      refine Zp.iconst (-1) k_87_23 (by decide) ?_
      refine Zp.iret _ k_87_24 vr_87 rfl ?_
      exact hq I pc (FrC.rf I)
    · obtain ⟨m3, ⟨mp, xp⟩, m4, ms1, ms2, ms3, mk0, mk1, mi0, mi1, mt, mb, mf, mr, mh⟩ := id pm
      refine Zm.go [some (.ref _), some (.int _), some (.int _)] vl_183 rfl ?_
      refine Zp.aload_n k_183_0 rfl ?_
      refine Zp.iload_n k_183_1 rfl ?_
      refine Zp.callv1I v_155 k_183_2 m_93 (Nat.le_of_ble_eq_true rfl) (Nat.le_of_ble_eq_true rfl) (c_isHelperM m3 (by omega) ⟨_, rfl, ?_⟩)
      refine Zp.if_eqB k_183_5 (fun c_5 => ?_) (fun c_5 => absurd c_5 (by omega))
      refine Zp.iconst (-1) k_183_31 (by decide) ?_
      refine Zp.iret _ k_183_32 vr_183 rfl ?_
      first | exact hq I L pm (FrM.rf I) | exact hq I2 L pm2 (fun q hq => s2 q (by omega))
theorem B_set (ho : Ao A) : zBoth G 88 184 [.int x, .int y] A := by
  obtain ⟨⟨so, sz, sst, lo, po, eo⟩, ok0, ok1, oi0, oi1, ot, ob, of_, or_, oh⟩ := id ho
  obtain ⟨o1, o2, o3, o4, o5, o6, o7⟩ := id so
  obtain ⟨p1, p2, p3⟩ := id lo
  obtain ⟨u1, u2⟩ := id po
  obtain ⟨e1, e2⟩ := id eo
  by_cases v : 0 ≤ x.toInt ∧ x.toInt ≤ 1
  · obtain ⟨a, ha, rfl, ea⟩ := zin_nI (n := 2) v.1 (by omega)
    rcases (by omega : a = 0 ∨ a = 1) with rfl | rfl
    · by_cases w : 1 ≤ y.toInt ∧ y.toInt ≤ 99
      · obtain ⟨c, hc, rfl, ec⟩ := zin_nI (n := 100) (x := y) (by omega) (by omega)
        refine ⟨.int (nI (sneed (kS (aK A)))), wK A (sUneed (kS (aK A)) c, (aK A).2), ho.now (ho.1.uS (show So (sUneed (kS (aK A)) c) from ⟨o1, by show c ≤ 99; omega, o3, o4, o5, o6, o7⟩) sz rfl sst) (Kl.uS rfl), fun I L Q pc hq => ?_, fun I L Q pm hq => ?_⟩
        · obtain ⟨⟨hp, lp, pp, ep⟩, hk, hi0, hi1, ht, hb, hf, hr, hh⟩ := id pc
          refine Zm.go [some (.ref _), some (.int _), some (.int _)] vl_88 rfl ?_
          refine Zp.iload_n k_88_0 rfl ?_
          refine Zp.iconst (nI 0) k_88_1 (by decide) ?_
          refine Zp.iconst (nI 1) k_88_2 (by decide) ?_
          refine Zp.calls3I vs_129 k_88_3 (Nat.le_of_ble_eq_true rfl) (Nat.le_of_ble_eq_true rfl) (c_isWithin (nI_toInt (by omega)) (nI_toInt (by omega)) (nI_toInt (by omega)) ⟨_, rfl, ?_⟩)
          refine Zp.if_eqB k_88_6 (fun c_6 => absurd c_6 (by omega)) (fun c_6 => ?_)
          refine Zp.iload_n k_88_9 rfl ?_
          refine Zp.iconst (nI 1) k_88_10 (by decide) ?_
          refine Zp.iload_n k_88_11 rfl ?_
          refine Zp.if_neN k_88_12 (by omega) (fun c => absurd c (by decide)) (fun _ => ?_)
          refine Zp.bipush (nI 99) k_88_15 (by decide) ?_
          refine Zp.goto k_88_17 ?_
          refine Zp.calls3I vs_129 k_88_22 (Nat.le_of_ble_eq_true rfl) (Nat.le_of_ble_eq_true rfl) (c_isWithin (nI_toInt (by omega)) (nI_toInt (by omega)) (nI_toInt (by omega)) ⟨_, rfl, ?_⟩)
          refine Zp.if_neB k_88_25 (fun c_25 => ?_) (fun c_25 => absurd c_25 (by omega))
          refine Zp.iload_n k_88_30 rfl ?_
          refine Zp.if_neN k_88_31 (by omega) (fun c => absurd c (by decide)) (fun _ => ?_)
          refine Zp.aload_n k_88_34 rfl ?_
          refine Zp.iload_n k_88_35 rfl ?_
          refine Zp.callv1I v_89 k_88_36 m_0 (Nat.le_of_ble_eq_true rfl) (Nat.le_of_ble_eq_true rfl) (c_changeNeed hp ⟨_, rfl, ?_⟩)
          refine Zp.goto k_88_39 ?_
          refine Zp.iret _ k_88_47 vr_88 rfl ?_
          exact hq _ (pc.soup hp.uneed (fun q h2 _ _ => zpu_q _ _ _ (by omega))) (fun q h => zpu_q _ _ _ (by omega))
        · obtain ⟨m3, ⟨mp, xp⟩, m4, ms1, ms2, ms3, mk0, mk1, mi0, mi1, mt, mb, mf, mr, mh⟩ := id pm
          refine Zm.go [some (.ref _), some (.int _), some (.int _)] vl_184 rfl ?_
          refine Zp.iload_n k_184_0 rfl ?_
          refine Zp.calls1I vs_158 k_184_1 (Nat.le_of_ble_eq_true rfl) (Nat.le_of_ble_eq_true rfl) (c_isPartM ⟨_, rfl, ?_⟩)
          refine Zp.if_eqB k_184_4 (fun c_4 => absurd c_4 (by omega)) (fun c_4 => ?_)
          refine Zp.iload_n k_184_7 rfl ?_
          refine Zp.i2l k_184_8 ?_
          refine Zp.lconst (lN 1) k_184_9 (by decide) ?_
          refine Zp.iload_n k_184_10 rfl ?_
          refine Zp.if_neN k_184_11 (by omega) (fun c => absurd c (by decide)) (fun _ => ?_)
          refine Zp.ldc2 (lN 99) k_184_14 (by decide) ?_
          refine Zp.goto k_184_17 ?_
          refine Zp.calls3I vs_131 k_184_23 (Nat.le_of_ble_eq_true rfl) (Nat.le_of_ble_eq_true rfl) (c_in (zi2n (by omega)) (lN_z (by decide)) (lN_z (by decide)) ⟨_, rfl, ?_⟩)
          refine Zp.if_neB k_184_26 (fun c_26 => ?_) (fun c_26 => absurd c_26 (by omega))
          refine Zp.iload_n k_184_31 rfl ?_
          refine Zp.iconst (nI 1) k_184_32 (by decide) ?_
          refine Zp.icmp_neN k_184_33 (by omega) (by omega) (fun c_33 => ?_) (fun c_33 => absurd c_33 (by omega))
          refine Zp.aload_n k_184_52 rfl ?_
          refine Zp.iload_n k_184_53 rfl ?_
          refine Zp.if_neN k_184_54 (by omega) (fun c => absurd c (by decide)) (fun _ => ?_)
          refine Zp.bipush (nI 30) k_184_57 (by decide) ?_
          refine Zp.goto k_184_59 ?_
          refine Zp.iload_n k_184_64 rfl ?_
          refine Zp.callv2I v_177 k_184_65 m_93 (Nat.le_of_ble_eq_true rfl) (Nat.le_of_ble_eq_true rfl) (c_becomesM (by omega) ⟨_, rfl, ?_⟩)
          refine Zp.iret _ k_184_68 vr_184 rfl ?_
          exact zqe (hq _ _ (pm.soup ho rfl (mp.u30 o1) (fun j hj => zpu_k _ _ _ (by omega)) (fun q h _ => zpu_q _ _ _ h)) (fun q h => zpu_q _ _ _ (by omega))) mp.2.2.1
      · refine ⟨.int (-1), A, ho, fun I L Q pc hq => ?_, fun I L Q pm hq => ?_⟩
        · obtain ⟨⟨hp, lp, pp, ep⟩, hk, hi0, hi1, ht, hb, hf, hr, hh⟩ := id pc
          refine Zm.go [some (.ref _), some (.int _), some (.int _)] vl_88 rfl ?_
          refine Zp.iload_n k_88_0 rfl ?_
          refine Zp.iconst (nI 0) k_88_1 (by decide) ?_
          refine Zp.iconst (nI 1) k_88_2 (by decide) ?_
          refine Zp.calls3I vs_129 k_88_3 (Nat.le_of_ble_eq_true rfl) (Nat.le_of_ble_eq_true rfl) (c_isWithin (nI_toInt (by omega)) (nI_toInt (by omega)) (nI_toInt (by omega)) ⟨_, rfl, ?_⟩)
          refine Zp.if_eqB k_88_6 (fun c_6 => absurd c_6 (by omega)) (fun c_6 => ?_)
          refine Zp.iload_n k_88_9 rfl ?_
          refine Zp.iconst (nI 1) k_88_10 (by decide) ?_
          refine Zp.iload_n k_88_11 rfl ?_
          refine Zp.if_neN k_88_12 (by omega) (fun c => absurd c (by decide)) (fun _ => ?_)
          refine Zp.bipush (nI 99) k_88_15 (by decide) ?_
          refine Zp.goto k_88_17 ?_
          refine Zp.calls3I vs_129 k_88_22 (Nat.le_of_ble_eq_true rfl) (Nat.le_of_ble_eq_true rfl) (c_isWithin rfl (nI_toInt (by omega)) (nI_toInt (by omega)) ⟨_, rfl, ?_⟩)
          refine Zp.if_neB k_88_25 (fun c_25 => absurd c_25 (by omega)) (fun c_25 => ?_)
          refine Zp.iconst (-1) k_88_28 (by decide) ?_
          refine Zp.iret _ k_88_29 vr_88 rfl ?_
          exact hq I pc (FrC.rf I)
        · obtain ⟨m3, ⟨mp, xp⟩, m4, ms1, ms2, ms3, mk0, mk1, mi0, mi1, mt, mb, mf, mr, mh⟩ := id pm
          refine Zm.go [some (.ref _), some (.int _), some (.int _)] vl_184 rfl ?_
          refine Zp.iload_n k_184_0 rfl ?_
          refine Zp.calls1I vs_158 k_184_1 (Nat.le_of_ble_eq_true rfl) (Nat.le_of_ble_eq_true rfl) (c_isPartM ⟨_, rfl, ?_⟩)
          refine Zp.if_eqB k_184_4 (fun c_4 => absurd c_4 (by omega)) (fun c_4 => ?_)
          refine Zp.iload_n k_184_7 rfl ?_
          refine Zp.i2l k_184_8 ?_
          refine Zp.lconst (lN 1) k_184_9 (by decide) ?_
          refine Zp.iload_n k_184_10 rfl ?_
          refine Zp.if_neN k_184_11 (by omega) (fun c => absurd c (by decide)) (fun _ => ?_)
          refine Zp.ldc2 (lN 99) k_184_14 (by decide) ?_
          refine Zp.goto k_184_17 ?_
          refine Zp.calls3I vs_131 k_184_23 (Nat.le_of_ble_eq_true rfl) (Nat.le_of_ble_eq_true rfl) (c_in (zi2l _) (lN_z (by decide)) (lN_z (by decide)) ⟨_, rfl, ?_⟩)
          refine Zp.if_neB k_184_26 (fun c_26 => absurd c_26 (by omega)) (fun c_26 => ?_)
          refine Zp.iconst (-1) k_184_29 (by decide) ?_
          refine Zp.iret _ k_184_30 vr_184 rfl ?_
          first | exact hq I L pm (FrM.rf I) | exact hq I2 L pm2 (fun q hq => s2 q (by omega))
    · by_cases w : 1 ≤ y.toInt ∧ y.toInt ≤ 12
      · obtain ⟨c, hc, rfl, ec⟩ := zin_nI (n := 13) (x := y) (by omega) (by omega)
        by_cases s : c < sstep (kS (aK A))
        · refine ⟨.int (-2), A, ho, fun I L Q pc hq => ?_, fun I L Q pm hq => ?_⟩
          · obtain ⟨⟨hp, lp, pp, ep⟩, hk, hi0, hi1, ht, hb, hf, hr, hh⟩ := id pc
            refine Zm.go [some (.ref _), some (.int _), some (.int _)] vl_88 rfl ?_
            refine Zp.iload_n k_88_0 rfl ?_
            refine Zp.iconst (nI 0) k_88_1 (by decide) ?_
            refine Zp.iconst (nI 1) k_88_2 (by decide) ?_
            refine Zp.calls3I vs_129 k_88_3 (Nat.le_of_ble_eq_true rfl) (Nat.le_of_ble_eq_true rfl) (c_isWithin (nI_toInt (by omega)) (nI_toInt (by omega)) (nI_toInt (by omega)) ⟨_, rfl, ?_⟩)
            refine Zp.if_eqB k_88_6 (fun c_6 => absurd c_6 (by omega)) (fun c_6 => ?_)
            refine Zp.iload_n k_88_9 rfl ?_
            refine Zp.iconst (nI 1) k_88_10 (by decide) ?_
            refine Zp.iload_n k_88_11 rfl ?_
            refine Zp.if_neN k_88_12 (by omega) (fun _ => ?_) (fun c => absurd c (by decide))
            refine Zp.bipush (nI 12) k_88_20 (by decide) ?_
            refine Zp.calls3I vs_129 k_88_22 (Nat.le_of_ble_eq_true rfl) (Nat.le_of_ble_eq_true rfl) (c_isWithin (nI_toInt (by omega)) (nI_toInt (by omega)) (nI_toInt (by omega)) ⟨_, rfl, ?_⟩)
            refine Zp.if_neB k_88_25 (fun c_25 => ?_) (fun c_25 => absurd c_25 (by omega))
            refine Zp.iload_n k_88_30 rfl ?_
            refine Zp.if_neN k_88_31 (by omega) (fun _ => ?_) (fun c => absurd c (by decide))
            refine Zp.aload_n k_88_42 rfl ?_
            refine Zp.iload_n k_88_43 rfl ?_
            refine Zp.callv1I v_90 k_88_44 m_0 (Nat.le_of_ble_eq_true rfl) (Nat.le_of_ble_eq_true rfl) (c_changeNoonNo hp so (by omega) s ⟨_, rfl, ?_⟩)
            refine Zp.iret _ k_88_47 vr_88 rfl ?_
            exact hq I pc (FrC.rf I)
          · obtain ⟨m3, ⟨mp, xp⟩, m4, ms1, ms2, ms3, mk0, mk1, mi0, mi1, mt, mb, mf, mr, mh⟩ := id pm
            refine Zm.go [some (.ref _), some (.int _), some (.int _)] vl_184 rfl ?_
            refine Zp.iload_n k_184_0 rfl ?_
            refine Zp.calls1I vs_158 k_184_1 (Nat.le_of_ble_eq_true rfl) (Nat.le_of_ble_eq_true rfl) (c_isPartM ⟨_, rfl, ?_⟩)
            refine Zp.if_eqB k_184_4 (fun c_4 => absurd c_4 (by omega)) (fun c_4 => ?_)
            refine Zp.iload_n k_184_7 rfl ?_
            refine Zp.i2l k_184_8 ?_
            refine Zp.lconst (lN 1) k_184_9 (by decide) ?_
            refine Zp.iload_n k_184_10 rfl ?_
            refine Zp.if_neN k_184_11 (by omega) (fun _ => ?_) (fun c => absurd c (by decide))
            refine Zp.ldc2 (lN 12) k_184_20 (by decide) ?_
            refine Zp.calls3I vs_131 k_184_23 (Nat.le_of_ble_eq_true rfl) (Nat.le_of_ble_eq_true rfl) (c_in (zi2n (by omega)) (lN_z (by decide)) (lN_z (by decide)) ⟨_, rfl, ?_⟩)
            refine Zp.if_neB k_184_26 (fun c_26 => ?_) (fun c_26 => absurd c_26 (by omega))
            refine Zp.iload_n k_184_31 rfl ?_
            refine Zp.iconst (nI 1) k_184_32 (by decide) ?_
            refine Zp.icmp_neN k_184_33 (by omega) (by omega) (fun c_33 => absurd c_33 (by omega)) (fun c_33 => ?_)
            refine Zp.aload_n k_184_36 rfl ?_
            refine Zp.getR k_184_37 rfl (zlt rfl) m_93 r_93_0 ?_
            refine Zp.bipush (nI 32) k_184_40 (by decide) ?_
            refine Zp.iald _ k_184_42 m_94 rfl (by omega) (zlt rfl) (by first | exact mp.2.2.1 | exact mp.2.2.2.1 | exact mp.2.2.2.2.1 | exact mp.2.2.2.2.2.1 | exact mp.2.2.2.2.2.2 | exact xp.1 | exact xp.2.1 | exact xp.2.2.2.1 | exact xp.2.2.1 _ (by omega) | exact xp.2.2.2.2.2 _ (by omega) | exact xp.2.2.2.2.1 _ (by omega) | exact mp.hh (by omega) (by omega) | exact mp.kk (by omega) | exact mp.2.1 _ (by omega)) ?_
            refine Zp.iload_n k_184_43 rfl ?_
            refine Zp.icmp_leN k_184_44 (by omega) (by omega) (fun c_44 => absurd c_44 (by omega)) (fun c_44 => ?_)
            refine Zp.bipush (-2) k_184_47 (by decide) ?_
            refine Zp.goto k_184_49 ?_
            refine Zp.iret _ k_184_68 vr_184 rfl ?_
            first | exact hq I L pm (FrM.rf I) | exact hq I2 L pm2 (fun q hq => s2 q (by omega))
        · refine ⟨.int (nI (snoon (kS (aK A)))), wK A (sUnoon (kS (aK A)) c, (aK A).2), ho.now (ho.1.uS (show So (sUnoon (kS (aK A)) c) from ⟨o1, o2, by show c ≤ 12; omega, o4, o5, o6, o7⟩) sz rfl (by show sstep (kS (aK A)) ≤ c; omega)) (Kl.uS rfl), fun I L Q pc hq => ?_, fun I L Q pm hq => ?_⟩
          · obtain ⟨⟨hp, lp, pp, ep⟩, hk, hi0, hi1, ht, hb, hf, hr, hh⟩ := id pc
            refine Zm.go [some (.ref _), some (.int _), some (.int _)] vl_88 rfl ?_
            refine Zp.iload_n k_88_0 rfl ?_
            refine Zp.iconst (nI 0) k_88_1 (by decide) ?_
            refine Zp.iconst (nI 1) k_88_2 (by decide) ?_
            refine Zp.calls3I vs_129 k_88_3 (Nat.le_of_ble_eq_true rfl) (Nat.le_of_ble_eq_true rfl) (c_isWithin (nI_toInt (by omega)) (nI_toInt (by omega)) (nI_toInt (by omega)) ⟨_, rfl, ?_⟩)
            refine Zp.if_eqB k_88_6 (fun c_6 => absurd c_6 (by omega)) (fun c_6 => ?_)
            refine Zp.iload_n k_88_9 rfl ?_
            refine Zp.iconst (nI 1) k_88_10 (by decide) ?_
            refine Zp.iload_n k_88_11 rfl ?_
            refine Zp.if_neN k_88_12 (by omega) (fun _ => ?_) (fun c => absurd c (by decide))
            refine Zp.bipush (nI 12) k_88_20 (by decide) ?_
            refine Zp.calls3I vs_129 k_88_22 (Nat.le_of_ble_eq_true rfl) (Nat.le_of_ble_eq_true rfl) (c_isWithin (nI_toInt (by omega)) (nI_toInt (by omega)) (nI_toInt (by omega)) ⟨_, rfl, ?_⟩)
            refine Zp.if_neB k_88_25 (fun c_25 => ?_) (fun c_25 => absurd c_25 (by omega))
            refine Zp.iload_n k_88_30 rfl ?_
            refine Zp.if_neN k_88_31 (by omega) (fun _ => ?_) (fun c => absurd c (by decide))
            refine Zp.aload_n k_88_42 rfl ?_
            refine Zp.iload_n k_88_43 rfl ?_
            refine Zp.callv1I v_90 k_88_44 m_0 (Nat.le_of_ble_eq_true rfl) (Nat.le_of_ble_eq_true rfl) (c_changeNoon hp so (by omega) (by omega) ⟨_, rfl, ?_⟩)
            refine Zp.iret _ k_88_47 vr_88 rfl ?_
            exact hq _ (pc.soup hp.unoon (fun q h2 _ _ => zpu_q _ _ _ (by omega))) (fun q h => zpu_q _ _ _ (by omega))
          · obtain ⟨m3, ⟨mp, xp⟩, m4, ms1, ms2, ms3, mk0, mk1, mi0, mi1, mt, mb, mf, mr, mh⟩ := id pm
            refine Zm.go [some (.ref _), some (.int _), some (.int _)] vl_184 rfl ?_
            refine Zp.iload_n k_184_0 rfl ?_
            refine Zp.calls1I vs_158 k_184_1 (Nat.le_of_ble_eq_true rfl) (Nat.le_of_ble_eq_true rfl) (c_isPartM ⟨_, rfl, ?_⟩)
            refine Zp.if_eqB k_184_4 (fun c_4 => absurd c_4 (by omega)) (fun c_4 => ?_)
            refine Zp.iload_n k_184_7 rfl ?_
            refine Zp.i2l k_184_8 ?_
            refine Zp.lconst (lN 1) k_184_9 (by decide) ?_
            refine Zp.iload_n k_184_10 rfl ?_
            refine Zp.if_neN k_184_11 (by omega) (fun _ => ?_) (fun c => absurd c (by decide))
            refine Zp.ldc2 (lN 12) k_184_20 (by decide) ?_
            refine Zp.calls3I vs_131 k_184_23 (Nat.le_of_ble_eq_true rfl) (Nat.le_of_ble_eq_true rfl) (c_in (zi2n (by omega)) (lN_z (by decide)) (lN_z (by decide)) ⟨_, rfl, ?_⟩)
            refine Zp.if_neB k_184_26 (fun c_26 => ?_) (fun c_26 => absurd c_26 (by omega))
            refine Zp.iload_n k_184_31 rfl ?_
            refine Zp.iconst (nI 1) k_184_32 (by decide) ?_
            refine Zp.icmp_neN k_184_33 (by omega) (by omega) (fun c_33 => absurd c_33 (by omega)) (fun c_33 => ?_)
            refine Zp.aload_n k_184_36 rfl ?_
            refine Zp.getR k_184_37 rfl (zlt rfl) m_93 r_93_0 ?_
            refine Zp.bipush (nI 32) k_184_40 (by decide) ?_
            refine Zp.iald _ k_184_42 m_94 rfl (by omega) (zlt rfl) (by first | exact mp.2.2.1 | exact mp.2.2.2.1 | exact mp.2.2.2.2.1 | exact mp.2.2.2.2.2.1 | exact mp.2.2.2.2.2.2 | exact xp.1 | exact xp.2.1 | exact xp.2.2.2.1 | exact xp.2.2.1 _ (by omega) | exact xp.2.2.2.2.2 _ (by omega) | exact xp.2.2.2.2.1 _ (by omega) | exact mp.hh (by omega) (by omega) | exact mp.kk (by omega) | exact mp.2.1 _ (by omega)) ?_
            refine Zp.iload_n k_184_43 rfl ?_
            refine Zp.icmp_leN k_184_44 (by omega) (by omega) (fun c_44 => ?_) (fun c_44 => absurd c_44 (by omega))
            refine Zp.aload_n k_184_52 rfl ?_
            refine Zp.iload_n k_184_53 rfl ?_
            refine Zp.if_neN k_184_54 (by omega) (fun _ => ?_) (fun c => absurd c (by decide))
            refine Zp.bipush (nI 31) k_184_62 (by decide) ?_
            refine Zp.iload_n k_184_64 rfl ?_
            refine Zp.callv2I v_177 k_184_65 m_93 (Nat.le_of_ble_eq_true rfl) (Nat.le_of_ble_eq_true rfl) (c_becomesM (by omega) ⟨_, rfl, ?_⟩)
            refine Zp.iret _ k_184_68 vr_184 rfl ?_
            exact zqe (hq _ _ (pm.soup ho rfl (mp.u31 o1) (fun j hj => zpu_k _ _ _ (by omega)) (fun q h _ => zpu_q _ _ _ h)) (fun q h => zpu_q _ _ _ (by omega))) mp.2.2.2.1
      · refine ⟨.int (-1), A, ho, fun I L Q pc hq => ?_, fun I L Q pm hq => ?_⟩
        · obtain ⟨⟨hp, lp, pp, ep⟩, hk, hi0, hi1, ht, hb, hf, hr, hh⟩ := id pc
          refine Zm.go [some (.ref _), some (.int _), some (.int _)] vl_88 rfl ?_
          refine Zp.iload_n k_88_0 rfl ?_
          refine Zp.iconst (nI 0) k_88_1 (by decide) ?_
          refine Zp.iconst (nI 1) k_88_2 (by decide) ?_
          refine Zp.calls3I vs_129 k_88_3 (Nat.le_of_ble_eq_true rfl) (Nat.le_of_ble_eq_true rfl) (c_isWithin (nI_toInt (by omega)) (nI_toInt (by omega)) (nI_toInt (by omega)) ⟨_, rfl, ?_⟩)
          refine Zp.if_eqB k_88_6 (fun c_6 => absurd c_6 (by omega)) (fun c_6 => ?_)
          refine Zp.iload_n k_88_9 rfl ?_
          refine Zp.iconst (nI 1) k_88_10 (by decide) ?_
          refine Zp.iload_n k_88_11 rfl ?_
          refine Zp.if_neN k_88_12 (by omega) (fun _ => ?_) (fun c => absurd c (by decide))
          refine Zp.bipush (nI 12) k_88_20 (by decide) ?_
          refine Zp.calls3I vs_129 k_88_22 (Nat.le_of_ble_eq_true rfl) (Nat.le_of_ble_eq_true rfl) (c_isWithin rfl (nI_toInt (by omega)) (nI_toInt (by omega)) ⟨_, rfl, ?_⟩)
          refine Zp.if_neB k_88_25 (fun c_25 => absurd c_25 (by omega)) (fun c_25 => ?_)
          refine Zp.iconst (-1) k_88_28 (by decide) ?_
          refine Zp.iret _ k_88_29 vr_88 rfl ?_
          exact hq I pc (FrC.rf I)
        · obtain ⟨m3, ⟨mp, xp⟩, m4, ms1, ms2, ms3, mk0, mk1, mi0, mi1, mt, mb, mf, mr, mh⟩ := id pm
          refine Zm.go [some (.ref _), some (.int _), some (.int _)] vl_184 rfl ?_
          refine Zp.iload_n k_184_0 rfl ?_
          refine Zp.calls1I vs_158 k_184_1 (Nat.le_of_ble_eq_true rfl) (Nat.le_of_ble_eq_true rfl) (c_isPartM ⟨_, rfl, ?_⟩)
          refine Zp.if_eqB k_184_4 (fun c_4 => absurd c_4 (by omega)) (fun c_4 => ?_)
          refine Zp.iload_n k_184_7 rfl ?_
          refine Zp.i2l k_184_8 ?_
          refine Zp.lconst (lN 1) k_184_9 (by decide) ?_
          refine Zp.iload_n k_184_10 rfl ?_
          refine Zp.if_neN k_184_11 (by omega) (fun _ => ?_) (fun c => absurd c (by decide))
          refine Zp.ldc2 (lN 12) k_184_20 (by decide) ?_
          refine Zp.calls3I vs_131 k_184_23 (Nat.le_of_ble_eq_true rfl) (Nat.le_of_ble_eq_true rfl) (c_in (zi2l _) (lN_z (by decide)) (lN_z (by decide)) ⟨_, rfl, ?_⟩)
          refine Zp.if_neB k_184_26 (fun c_26 => absurd c_26 (by omega)) (fun c_26 => ?_)
          refine Zp.iconst (-1) k_184_29 (by decide) ?_
          refine Zp.iret _ k_184_30 vr_184 rfl ?_
          first | exact hq I L pm (FrM.rf I) | exact hq I2 L pm2 (fun q hq => s2 q (by omega))
  · refine ⟨.int (-1), A, ho, fun I L Q pc hq => ?_, fun I L Q pm hq => ?_⟩
    · obtain ⟨⟨hp, lp, pp, ep⟩, hk, hi0, hi1, ht, hb, hf, hr, hh⟩ := id pc
      refine Zm.go [some (.ref _), some (.int _), some (.int _)] vl_88 rfl ?_
      refine Zp.iload_n k_88_0 rfl ?_
      refine Zp.iconst (nI 0) k_88_1 (by decide) ?_
      refine Zp.iconst (nI 1) k_88_2 (by decide) ?_
      refine Zp.calls3I vs_129 k_88_3 (Nat.le_of_ble_eq_true rfl) (Nat.le_of_ble_eq_true rfl) (c_isWithin rfl (nI_toInt (by omega)) (nI_toInt (by omega)) ⟨_, rfl, ?_⟩)
      refine Zp.if_eqB k_88_6 (fun c_6 => ?_) (fun c_6 => absurd c_6 (by omega))
      refine Zp.iconst (-1) k_88_28 (by decide) ?_
      refine Zp.iret _ k_88_29 vr_88 rfl ?_
      exact hq I pc (FrC.rf I)
    · obtain ⟨m3, ⟨mp, xp⟩, m4, ms1, ms2, ms3, mk0, mk1, mi0, mi1, mt, mb, mf, mr, mh⟩ := id pm
      refine Zm.go [some (.ref _), some (.int _), some (.int _)] vl_184 rfl ?_
      refine Zp.iload_n k_184_0 rfl ?_
      refine Zp.calls1I vs_158 k_184_1 (Nat.le_of_ble_eq_true rfl) (Nat.le_of_ble_eq_true rfl) (c_isPartM ⟨_, rfl, ?_⟩)
      refine Zp.if_eqB k_184_4 (fun c_4 => ?_) (fun c_4 => absurd c_4 (by omega))
      refine Zp.iconst (-1) k_184_29 (by decide) ?_
      refine Zp.iret _ k_184_30 vr_184 rfl ?_
      first | exact hq I L pm (FrM.rf I) | exact hq I2 L pm2 (fun q hq => s2 q (by omega))
theorem B_turn (ho : Ao A) : zBoth G 93 187 [.int x, .int y] A := by
  obtain ⟨⟨so, sz, sst, lo, po, eo⟩, ok0, ok1, oi0, oi1, ot, ob, of_, or_, oh⟩ := id ho
  obtain ⟨o1, o2, o3, o4, o5, o6, o7⟩ := id so
  obtain ⟨p1, p2, p3⟩ := id lo
  obtain ⟨u1, u2⟩ := id po
  obtain ⟨e1, e2⟩ := id eo
  by_cases v : (0 ≤ x.toInt ∧ x.toInt < (sn (kS (aK A)) : Int)) ∧ (0 ≤ y.toInt ∧ y.toInt < (sn (kS (aK A)) : Int)) ∧ ¬ x.toInt = y.toInt
  · obtain ⟨a, ha, rfl, ea⟩ := zin_nI v.1.1 v.1.2
    obtain ⟨b, hb0, rfl, eb⟩ := zin_nI v.2.1.1 v.2.1.2
    refine ⟨.int (nI (tn (kS (aK A)) a b)), A, ho, fun I L Q pc hq => ?_, fun I L Q pm hq => ?_⟩
    · obtain ⟨⟨hp, lp, pp, ep⟩, hk, hi0, hi1, ht, hb, hf, hr, hh⟩ := id pc
      refine Zm.go [some (.ref _), some (.int _), some (.int _)] vl_93 rfl ?_
      refine Zp.aload_n k_93_0 rfl ?_
      refine Zp.getR k_93_1 rfl (zlt rfl) m_0 r_0_0 ?_
      refine Zp.getR k_93_4 rfl (zlt rfl) m_1 r_1_0 ?_
      refine Zp.iload_n k_93_7 rfl ?_
      refine Zp.iload_n k_93_8 rfl ?_
      refine Zp.callv2I v_57 k_93_9 m_2 (Nat.le_of_ble_eq_true rfl) (Nat.le_of_ble_eq_true rfl) (c_areTwo sa_2 hp so ⟨_, rfl, ?_⟩)
      refine Zp.if_eqB k_93_12 (fun c_12 => absurd c_12 (by omega)) (fun c_12 => ?_)
      refine Zp.aload_n k_93_15 rfl ?_
      refine Zp.getR k_93_16 rfl (zlt rfl) m_0 r_0_0 ?_
      refine Zp.getR k_93_19 rfl (zlt rfl) m_1 r_1_0 ?_
      refine Zp.iload_n k_93_22 rfl ?_
      refine Zp.iload_n k_93_23 rfl ?_
      refine Zp.callv2I v_61 k_93_24 m_2 (Nat.le_of_ble_eq_true rfl) (Nat.le_of_ble_eq_true rfl) (c_turnOf sa_2 hp so (by omega) (by omega) ⟨_, rfl, ?_⟩)
      refine Zp.goto k_93_27 ?_
      refine Zp.iret _ k_93_31 vr_93 rfl ?_
      exact hq I pc (FrC.rf I)
    · obtain ⟨m3, ⟨mp, xp⟩, m4, ms1, ms2, ms3, mk0, mk1, mi0, mi1, mt, mb, mf, mr, mh⟩ := id pm
      refine Zm.go [some (.ref _), some (.int _), some (.int _)] vl_187 rfl ?_
      refine Zp.aload_n k_187_0 rfl ?_
      refine Zp.iload_n k_187_1 rfl ?_
      refine Zp.iload_n k_187_2 rfl ?_
      refine Zp.callv2I v_156 k_187_3 m_93 (Nat.le_of_ble_eq_true rfl) (Nat.le_of_ble_eq_true rfl) (c_areTwoM m3 (by omega) ⟨_, rfl, ?_⟩)
      refine Zp.if_neB k_187_6 (fun c_6 => ?_) (fun c_6 => absurd c_6 (by omega))
      refine Zp.aload_n k_187_11 rfl ?_
      refine Zp.callv0V v_159 k_187_12 m_93 (Nat.le_of_ble_eq_true rfl) (Nat.le_of_ble_eq_true rfl) (c_goM pm ho (fun I2 pm2 mq xq s2 => ⟨rfl, ?_⟩))
      refine Zp.aload_n k_187_15 rfl ?_
      refine Zp.iload_n k_187_16 rfl ?_
      refine Zp.iload_n k_187_17 rfl ?_
      refine Zp.callv2I v_165 k_187_18 m_93 (Nat.le_of_ble_eq_true rfl) (Nat.le_of_ble_eq_true rfl) (c_turnOfM mq so (by omega) (by omega) ⟨_, rfl, ?_⟩)
      refine Zp.iret _ k_187_21 vr_187 rfl ?_
      first | exact hq I L pm (FrM.rf I) | exact hq I2 L pm2 (fun q hq => s2 q (by omega))
  · refine ⟨.int (-1), A, ho, fun I L Q pc hq => ?_, fun I L Q pm hq => ?_⟩
    · obtain ⟨⟨hp, lp, pp, ep⟩, hk, hi0, hi1, ht, hb, hf, hr, hh⟩ := id pc
      refine Zm.go [some (.ref _), some (.int _), some (.int _)] vl_93 rfl ?_
      refine Zp.aload_n k_93_0 rfl ?_
      refine Zp.getR k_93_1 rfl (zlt rfl) m_0 r_0_0 ?_
      refine Zp.getR k_93_4 rfl (zlt rfl) m_1 r_1_0 ?_
      refine Zp.iload_n k_93_7 rfl ?_
      refine Zp.iload_n k_93_8 rfl ?_
      refine Zp.callv2I v_57 k_93_9 m_2 (Nat.le_of_ble_eq_true rfl) (Nat.le_of_ble_eq_true rfl) (c_areTwo sa_2 hp so ⟨_, rfl, ?_⟩)
      refine Zp.if_eqB k_93_12 (fun c_12 => ?_) (fun c_12 => (by first | exact absurd c_12 v | exact absurd v c_12))
      refine Zp.iconst (-1) k_93_30 (by decide) ?_
      refine Zp.iret _ k_93_31 vr_93 rfl ?_
      exact hq I pc (FrC.rf I)
    · obtain ⟨m3, ⟨mp, xp⟩, m4, ms1, ms2, ms3, mk0, mk1, mi0, mi1, mt, mb, mf, mr, mh⟩ := id pm
      refine Zm.go [some (.ref _), some (.int _), some (.int _)] vl_187 rfl ?_
      refine Zp.aload_n k_187_0 rfl ?_
      refine Zp.iload_n k_187_1 rfl ?_
      refine Zp.iload_n k_187_2 rfl ?_
      refine Zp.callv2I v_156 k_187_3 m_93 (Nat.le_of_ble_eq_true rfl) (Nat.le_of_ble_eq_true rfl) (c_areTwoM m3 (by omega) ⟨_, rfl, ?_⟩)
      refine Zp.if_neB k_187_6 (fun c_6 => (by first | exact absurd c_6 v | exact absurd v c_6)) (fun c_6 => ?_)
      refine Zp.iconst (-1) k_187_9 (by decide) ?_
      refine Zp.iret _ k_187_10 vr_187 rfl ?_
      first | exact hq I L pm (FrM.rf I) | exact hq I2 L pm2 (fun q hq => s2 q (by omega))
theorem B_stir (ho : Ao A) : zBoth G 94 188 [.int x, .int y] A := by
  obtain ⟨⟨so, sz, sst, lo, po, eo⟩, ok0, ok1, oi0, oi1, ot, ob, of_, or_, oh⟩ := id ho
  obtain ⟨o1, o2, o3, o4, o5, o6, o7⟩ := id so
  obtain ⟨p1, p2, p3⟩ := id lo
  obtain ⟨u1, u2⟩ := id po
  obtain ⟨e1, e2⟩ := id eo
  by_cases v : (0 ≤ x.toInt ∧ x.toInt < (sn (kS (aK A)) : Int)) ∧ (0 ≤ y.toInt ∧ y.toInt < (sn (kS (aK A)) : Int)) ∧ ¬ x.toInt = y.toInt
  · obtain ⟨a, ha, rfl, ea⟩ := zin_nI v.1.1 v.1.2
    obtain ⟨b, hb0, rfl, eb⟩ := zin_nI v.2.1.1 v.2.1.2
    by_cases w : canS (kS (aK A))
    · have en := stS_n (kS (aK A)) a b
      refine ⟨.int (nI (sdone (stS (kS (aK A)) a b))), wK A (stS (kS (aK A)) a b, (aK A).2), ho.now (ho.1.uS (so.st a b) (sz.st o1 ha hb0 (by omega)) (stS_n _ a b) (by rw [stS_step, stS_noon]; exact w.2)) (Kl.uS (stS_n _ a b)), fun I L Q pc hq => ?_, fun I L Q pm hq => ?_⟩
      · obtain ⟨⟨hp, lp, pp, ep⟩, hk, hi0, hi1, ht, hb, hf, hr, hh⟩ := id pc
        refine Zm.go [some (.ref _), some (.int _), some (.int _)] vl_94 rfl ?_
        refine Zp.aload_n k_94_0 rfl ?_
        refine Zp.getR k_94_1 rfl (zlt rfl) m_0 r_0_0 ?_
        refine Zp.getR k_94_4 rfl (zlt rfl) m_1 r_1_0 ?_
        refine Zp.iload_n k_94_7 rfl ?_
        refine Zp.iload_n k_94_8 rfl ?_
        refine Zp.callv2I v_57 k_94_9 m_2 (Nat.le_of_ble_eq_true rfl) (Nat.le_of_ble_eq_true rfl) (c_areTwo sa_2 hp so ⟨_, rfl, ?_⟩)
        refine Zp.if_neB k_94_12 (fun c_12 => ?_) (fun c_12 => absurd c_12 (by omega))
        refine Zp.aload_n k_94_17 rfl ?_
        refine Zp.getR k_94_18 rfl (zlt rfl) m_0 r_0_0 ?_
        refine Zp.getR k_94_21 rfl (zlt rfl) m_1 r_1_0 ?_
        refine Zp.callv0I v_62 k_94_24 m_2 (Nat.le_of_ble_eq_true rfl) (Nat.le_of_ble_eq_true rfl) (c_canBeStirred sa_2 hp so (by omega) ⟨_, rfl, ?_⟩)
        refine Zp.if_neB k_94_27 (fun c_27 => ?_) (fun c_27 => (by first | exact absurd c_27 w | exact absurd w c_27))
        refine Zp.aload_n k_94_33 rfl ?_
        refine Zp.getR k_94_34 rfl (zlt rfl) m_0 r_0_0 ?_
        refine Zp.getR k_94_37 rfl (zlt rfl) m_1 r_1_0 ?_
        refine Zp.iload_n k_94_40 rfl ?_
        refine Zp.iload_n k_94_41 rfl ?_
        refine Zp.callv2V v_63 k_94_42 m_2 (Nat.le_of_ble_eq_true rfl) (Nat.le_of_ble_eq_true rfl) (c_stirOnce sa_2 hp so (by omega) (by omega) (by omega) (fun I2 hp2 hf2 => ⟨rfl, ?_⟩))
        refine Zp.aload_n k_94_45 rfl ?_
        refine Zp.getR k_94_46 rfl (zlt rfl) m_0 r_0_0 ?_
        refine Zp.getR k_94_49 rfl (zlt rfl) m_1 r_1_0 ?_
        refine Zp.getV k_94_52 rfl (zlt rfl) m_2 hp2.2.2.2.2.1 ?_
        refine Zp.iret _ k_94_55 vr_94 rfl ?_
        exact hq _ (pc.soup hp2 (fun q h2 _ h4 => hf2 q h2 h4)) (fun q h => hf2 q (by omega) (by omega))
      · obtain ⟨m3, ⟨mp, xp⟩, m4, ms1, ms2, ms3, mk0, mk1, mi0, mi1, mt, mb, mf, mr, mh⟩ := id pm
        refine Zm.go [some (.ref _), some (.int _), some (.int _)] vl_188 rfl ?_
        refine Zp.aload_n k_188_0 rfl ?_
        refine Zp.iload_n k_188_1 rfl ?_
        refine Zp.iload_n k_188_2 rfl ?_
        refine Zp.callv2I v_156 k_188_3 m_93 (Nat.le_of_ble_eq_true rfl) (Nat.le_of_ble_eq_true rfl) (c_areTwoM m3 (by omega) ⟨_, rfl, ?_⟩)
        refine Zp.if_neB k_188_6 (fun c_6 => ?_) (fun c_6 => absurd c_6 (by omega))
        refine Zp.aload_n k_188_11 rfl ?_
        refine Zp.callv0V v_159 k_188_12 m_93 (Nat.le_of_ble_eq_true rfl) (Nat.le_of_ble_eq_true rfl) (c_goS pm ho (fun I2 pm2 mq xq s1 s2 => ⟨rfl, ?_⟩))
        refine Zp.aload_n k_188_15 rfl ?_
        refine Zp.iload_n k_188_16 rfl ?_
        refine Zp.iload_n k_188_17 rfl ?_
        refine Zp.callv2I v_169 k_188_18 m_93 (Nat.le_of_ble_eq_true rfl) (Nat.le_of_ble_eq_true rfl) (c_stirsM mq so (by omega) (by omega) (by omega) (fun I3 mp3 f3 => ⟨_, rfl, ?_⟩))
        refine Zp.if_neB k_188_21 (fun c_21 => ?_) (fun c_21 => (by first | exact absurd c_21 w | exact absurd w c_21))
        rw [if_pos w] at mp3
        refine Zp.aload_n k_188_27 rfl ?_
        refine Zp.callv0V v_160 k_188_28 m_93 (Nat.le_of_ble_eq_true rfl) (Nat.le_of_ble_eq_true rfl) (c_settlesM (fun I4 g1 g2 g3 => ⟨rfl, ?_⟩))
        have mq4 : Mp (I4 94) (stS (kS (aK A)) a b) := mp3.fr (by omega) (fun j hj => g1 j (by omega))
        refine Zp.aload_n k_188_31 rfl ?_
        refine Zp.getR k_188_32 rfl (zlt rfl) m_93 r_93_0 ?_
        refine Zp.bipush (nI 33) k_188_35 (by decide) ?_
        refine Zp.iald _ k_188_37 m_94 rfl (by omega) (zlt rfl) mq4.2.2.2.2.2.1 ?_
        refine Zp.iret _ k_188_38 vr_188 rfl ?_
        refine hq _ _ (pm2.soup ho (stS_n _ a b) mq4 (fun j hj => ?_) (fun q h h2 => (g3 q h).trans (f3.1 q h2))) (fun q h => (g3 q (by omega)).trans ((f3.1 q (by omega)).trans (s2 q (by omega))))
        by_cases c : j < 58
        · rw [g1 j c, f3.2 j hj]
          exact s1 j c
        · rw [g2 j (by omega), f3.1 94 (by decide)]
    · refine ⟨.int (-2), A, ho, fun I L Q pc hq => ?_, fun I L Q pm hq => ?_⟩
      · obtain ⟨⟨hp, lp, pp, ep⟩, hk, hi0, hi1, ht, hb, hf, hr, hh⟩ := id pc
        refine Zm.go [some (.ref _), some (.int _), some (.int _)] vl_94 rfl ?_
        refine Zp.aload_n k_94_0 rfl ?_
        refine Zp.getR k_94_1 rfl (zlt rfl) m_0 r_0_0 ?_
        refine Zp.getR k_94_4 rfl (zlt rfl) m_1 r_1_0 ?_
        refine Zp.iload_n k_94_7 rfl ?_
        refine Zp.iload_n k_94_8 rfl ?_
        refine Zp.callv2I v_57 k_94_9 m_2 (Nat.le_of_ble_eq_true rfl) (Nat.le_of_ble_eq_true rfl) (c_areTwo sa_2 hp so ⟨_, rfl, ?_⟩)
        refine Zp.if_neB k_94_12 (fun c_12 => ?_) (fun c_12 => absurd c_12 (by omega))
        refine Zp.aload_n k_94_17 rfl ?_
        refine Zp.getR k_94_18 rfl (zlt rfl) m_0 r_0_0 ?_
        refine Zp.getR k_94_21 rfl (zlt rfl) m_1 r_1_0 ?_
        refine Zp.callv0I v_62 k_94_24 m_2 (Nat.le_of_ble_eq_true rfl) (Nat.le_of_ble_eq_true rfl) (c_canBeStirred sa_2 hp so (by omega) ⟨_, rfl, ?_⟩)
        refine Zp.if_neB k_94_27 (fun c_27 => (by first | exact absurd c_27 w | exact absurd w c_27)) (fun c_27 => ?_)
        refine Zp.bipush (-2) k_94_30 (by decide) ?_
        refine Zp.iret _ k_94_32 vr_94 rfl ?_
        exact hq I pc (FrC.rf I)
      · obtain ⟨m3, ⟨mp, xp⟩, m4, ms1, ms2, ms3, mk0, mk1, mi0, mi1, mt, mb, mf, mr, mh⟩ := id pm
        refine Zm.go [some (.ref _), some (.int _), some (.int _)] vl_188 rfl ?_
        refine Zp.aload_n k_188_0 rfl ?_
        refine Zp.iload_n k_188_1 rfl ?_
        refine Zp.iload_n k_188_2 rfl ?_
        refine Zp.callv2I v_156 k_188_3 m_93 (Nat.le_of_ble_eq_true rfl) (Nat.le_of_ble_eq_true rfl) (c_areTwoM m3 (by omega) ⟨_, rfl, ?_⟩)
        refine Zp.if_neB k_188_6 (fun c_6 => ?_) (fun c_6 => absurd c_6 (by omega))
        refine Zp.aload_n k_188_11 rfl ?_
        refine Zp.callv0V v_159 k_188_12 m_93 (Nat.le_of_ble_eq_true rfl) (Nat.le_of_ble_eq_true rfl) (c_goM pm ho (fun I2 pm2 mq xq s2 => ⟨rfl, ?_⟩))
        refine Zp.aload_n k_188_15 rfl ?_
        refine Zp.iload_n k_188_16 rfl ?_
        refine Zp.iload_n k_188_17 rfl ?_
        refine Zp.callv2I v_169 k_188_18 m_93 (Nat.le_of_ble_eq_true rfl) (Nat.le_of_ble_eq_true rfl) (c_stirsM mq so (by omega) (by omega) (by omega) (fun I3 mp3 f3 => ⟨_, rfl, ?_⟩))
        refine Zp.if_neB k_188_21 (fun c_21 => (by first | exact absurd c_21 w | exact absurd w c_21)) (fun c_21 => ?_)
        refine Zp.bipush (-2) k_188_24 (by decide) ?_
        refine Zp.iret _ k_188_26 vr_188 rfl ?_
        exact hq _ _ (pm2.at f3.1) (fun q h => (f3.1 q (by omega)).trans (s2 q (by omega)))
  · refine ⟨.int (-1), A, ho, fun I L Q pc hq => ?_, fun I L Q pm hq => ?_⟩
    · obtain ⟨⟨hp, lp, pp, ep⟩, hk, hi0, hi1, ht, hb, hf, hr, hh⟩ := id pc
      refine Zm.go [some (.ref _), some (.int _), some (.int _)] vl_94 rfl ?_
      refine Zp.aload_n k_94_0 rfl ?_
      refine Zp.getR k_94_1 rfl (zlt rfl) m_0 r_0_0 ?_
      refine Zp.getR k_94_4 rfl (zlt rfl) m_1 r_1_0 ?_
      refine Zp.iload_n k_94_7 rfl ?_
      refine Zp.iload_n k_94_8 rfl ?_
      refine Zp.callv2I v_57 k_94_9 m_2 (Nat.le_of_ble_eq_true rfl) (Nat.le_of_ble_eq_true rfl) (c_areTwo sa_2 hp so ⟨_, rfl, ?_⟩)
      refine Zp.if_neB k_94_12 (fun c_12 => (by first | exact absurd c_12 v | exact absurd v c_12)) (fun c_12 => ?_)
      refine Zp.iconst (-1) k_94_15 (by decide) ?_
      refine Zp.iret _ k_94_16 vr_94 rfl ?_
      exact hq I pc (FrC.rf I)
    · obtain ⟨m3, ⟨mp, xp⟩, m4, ms1, ms2, ms3, mk0, mk1, mi0, mi1, mt, mb, mf, mr, mh⟩ := id pm
      refine Zm.go [some (.ref _), some (.int _), some (.int _)] vl_188 rfl ?_
      refine Zp.aload_n k_188_0 rfl ?_
      refine Zp.iload_n k_188_1 rfl ?_
      refine Zp.iload_n k_188_2 rfl ?_
      refine Zp.callv2I v_156 k_188_3 m_93 (Nat.le_of_ble_eq_true rfl) (Nat.le_of_ble_eq_true rfl) (c_areTwoM m3 (by omega) ⟨_, rfl, ?_⟩)
      refine Zp.if_neB k_188_6 (fun c_6 => (by first | exact absurd c_6 v | exact absurd v c_6)) (fun c_6 => ?_)
      refine Zp.iconst (-1) k_188_9 (by decide) ?_
      refine Zp.iret _ k_188_10 vr_188 rfl ?_
      first | exact hq I L pm (FrM.rf I) | exact hq I2 L pm2 (fun q hq => s2 q (by omega))
end CHANGED
