/-! WHO FORGAVE, DRIFT, SLIPS -/
def bt (x : Int32) (i : Nat) : Bool := x.toBitVec.getLsbD i
theorem b_ext {x y : Int32} (h : ∀ i, i < 32 → bt x i = bt y i) : x = y := Int32.toBitVec_inj.mp (BitVec.eq_of_getLsbD_eq (fun i hi => h i hi))
theorem b_and (x y : Int32) (i : Nat) : bt (x &&& y) i = (bt x i && bt y i) := by unfold bt; rw [Int32.toBitVec_and, BitVec.getLsbD_and]
theorem s_l : ∀ n, n < 32 → ((nI n &&& 31).toBitVec.smod 32).toNat = n := by decide +kernel
theorem s_u : ∀ n, n < 32 → (((nI n).toUInt32 &&& Int32.toUInt32 31).toBitVec % 32).toNat = n := by decide +kernel
theorem b_ushr (n : Nat) (hn : n < 32) (x : Int32) (i : Nat) : bt ((x.toUInt32 >>> ((nI n).toUInt32 &&& Int32.toUInt32 31)).toInt32) i = bt x (n + i) := by
  show (x.toUInt32 >>> ((nI n).toUInt32 &&& Int32.toUInt32 31)).toBitVec.getLsbD i = x.toUInt32.toBitVec.getLsbD (n + i)
  rw [UInt32.toBitVec_shiftRight]
  show (x.toUInt32.toBitVec >>> (((nI n).toUInt32 &&& Int32.toUInt32 31).toBitVec % 32).toNat).getLsbD i = _
  rw [s_u n hn, BitVec.getLsbD_ushiftRight]
theorem b_sshr (n : Nat) (hn : n < 32) (x : Int32) {i : Nat} (hi : i < 32) : bt (x >>> (nI n &&& 31)) i = if n + i < 32 then bt x (n + i) else bt x 31 := by
  unfold bt
  rw [Int32.toBitVec_shiftRight]
  show (x.toBitVec.sshiftRight ((nI n &&& 31).toBitVec.smod 32).toNat).getLsbD i = _
  rw [s_l n hn, BitVec.getLsbD_sshiftRight, BitVec.msb_eq_getLsbD_last]
  simp [hi]
def drX (x : Int32) : Int32 := (x >>> (nI 16 &&& 31)) &&& nI 32767
def drN (x : Int32) : Nat := (drX x).toInt.toNat
theorem dr_u (x : Int32) : ((x.toUInt32 >>> ((nI 16).toUInt32 &&& Int32.toUInt32 31)).toInt32 &&& nI 32767) = drX x := by
  apply b_ext
  intro i hi
  unfold drX
  rw [b_and, b_and, b_ushr 16 (by decide), b_sshr 16 (by decide) _ hi]
  by_cases h : 16 + i < 32
  · rw [if_pos h]
  · rw [show bt (nI 32767) i = false from (by decide +kernel : ∀ i, i < 32 → ¬ 16 + i < 32 → bt (nI 32767) i = false) i hi h, Bool.and_false, Bool.and_false]
theorem drX_n (x : Int32) : drX x = nI (drN x) ∧ drN x < 32768 := by
  have h : (drX x).toInt = (x >>> (nI 16 &&& 31)).toInt % 2 ^ 15 := Jvm.Kit.i32_mask (x >>> (nI 16 &&& 31)) 32767 (by decide) (by decide)
  have h0 : 0 ≤ (drX x).toInt := by omega
  refine ⟨z_nI h0, ?_⟩
  unfold drN
  omega
def grX (x : Int32) : Int32 := x * nI 1103515245 + nI 12345
/-- the partners told by two numbers -/
def drA (n : Nat) (s : Int32) : Nat := drN (grX s) % n
def drB (n : Nat) (s : Int32) : Nat := if drN (grX (grX s)) % n = drA n s then (drA n s + 1) % n else drN (grX (grX s)) % n
def drS (S : zSo) (s : Int32) : Nat → zSo × Int32
  | 0 => (S, s)
  | i + 1 => (if sset (drS S s i).1 = 0 then stS (drS S s i).1 (drA (sn S) (drS S s i).2) (drB (sn S) (drS S s i).2) else (drS S s i).1, grX (grX (drS S s i).2))
theorem drS_n (S : zSo) (s : Int32) : ∀ i, sn (drS S s i).1 = sn S ∧ sstep (drS S s i).1 ≤ sstep S + i
  | 0 => ⟨rfl, Nat.le_refl _⟩
  | i + 1 => by
    obtain ⟨h1, h2⟩ := drS_n S s i
    unfold drS
    show sn (if _ then _ else _) = _ ∧ sstep (if _ then _ else _) ≤ _
    split
    · exact ⟨(stS_n _ _ _).trans h1, by rw [stS_step]; omega⟩
    · exact ⟨h1, by omega⟩
theorem drS_o {S : zSo} (ho : So S) (s : Int32) : ∀ i, So (drS S s i).1
  | 0 => ho
  | i + 1 => by
    unfold drS
    show So (if _ then _ else _)
    split
    · exact (drS_o ho s i).st _ _
    · exact drS_o ho s i
theorem drS_stop {S : zSo} {s : Int32} {i : Nat} (h : ¬ sset (drS S s i).1 = 0) : ∀ k, (drS S s (i + k)).1 = (drS S s i).1
  | 0 => rfl
  | k + 1 => by
    have ih := drS_stop h k
    show (if sset (drS S s (i + k)).1 = 0 then _ else (drS S s (i + k)).1) = _
    rw [ih, if_neg h]
theorem drA_lt {n : Nat} (s : Int32) (hn : 2 ≤ n) : drA n s < n := Nat.mod_lt _ (by omega)
theorem drB_lt {n : Nat} (s : Int32) (hn : 2 ≤ n) : drB n s < n := by
  unfold drB
  split
  · exact Nat.mod_lt _ (by omega)
  · exact Nat.mod_lt _ (by omega)
theorem fgS_cut {S : zSo} (hz : Sz S) {a : Nat} (ha : a < 5) (hn : sn S ≤ 5) : sUht S (fun j => if a * 5 ≤ j ∧ j < a * 5 + sn S then 0 else sht S j) = fgS S a := by
  unfold fgS
  congr 1
  funext j
  by_cases c1 : a * 5 ≤ j ∧ j < a * 5 + sn S
  · rw [if_pos c1, if_pos (by omega)]
  · rw [if_neg c1]
    by_cases c2 : a * 5 ≤ j ∧ j < a * 5 + 5
    · rw [if_pos c2]
      have := hz a (j - a * 5) ha (by omega) (Or.inr (Or.inl (by omega)))
      rw [show a * 5 + (j - a * 5) = j by omega] at this
      exact this
    · rw [if_neg c2]
section FORGAVE0
variable {G : zG} {A : zQs} {I : zI} {L : zJ} {Q : zP}
theorem c_grow {x : Int32} (hq : Q (some (.int (grX x))) I L) : Zm G 120 [.int x] I L Q := by
  refine Zm.go [some (.int _)] vl_120 rfl ?_
  refine Zp.iload_n k_120_0 rfl ?_
  refine Zp.ldcw (nI 1103515245) k_120_1 (by decide) ?_
  refine Zp.imul k_120_4 ?_
  refine Zp.sipush (nI 12345) k_120_5 (by decide) ?_
  refine Zp.iadd k_120_8 ?_
  refine Zp.iret _ k_120_9 vr_120 rfl ?_
  exact hq
theorem c_drBits {x : Int32} (hq : Q (some (.int (nI (drN x)))) I L) : Zm G 121 [.int x] I L Q := by
  refine Zm.go [some (.int _)] vl_121 rfl ?_
  refine Zp.iload_n k_121_0 rfl ?_
  refine Zp.bipush (nI 16) k_121_1 (by decide) ?_
  refine Zp.iushr k_121_3 ?_
  refine Zp.sipush (nI 32767) k_121_4 (by decide) ?_
  refine Zp.iand k_121_7 ?_
  refine Zp.iret _ k_121_8 vr_121 rfl ?_
  exact zqe hq ((dr_u x).trans (drX_n x).1)
end FORGAVE0
section FORGAVE
variable {G : zG} {A : zQs} {x y z : Int32}
theorem B_forgave (ho : Ao A) : zBoth G 112 212 [.int x] A := by
  obtain ⟨⟨so, sz, sst, lo, po, eo⟩, ok0, ok1, oi0, oi1, ot, ob, of_, or_, oh⟩ := id ho
  obtain ⟨o1, o2, o3, o4, o5, o6, o7⟩ := id so
  obtain ⟨p1, p2, p3⟩ := id lo
  obtain ⟨u1, u2⟩ := id po
  obtain ⟨e1, e2⟩ := id eo
  by_cases v : 0 ≤ x.toInt ∧ x.toInt ≤ 999
  · obtain ⟨c, hc, rfl, ec⟩ := zin_nI (n := 1000) v.1 (by omega)
    have hv2 : ∀ a i j, va_up (fun j => if a * 5 ≤ j ∧ j < a * 5 + i then 0 else sht (kS (aK A)) j) (a * 5 + i) 0 j = if a * 5 ≤ j ∧ j < a * 5 + (i + 1) then 0 else sht (kS (aK A)) j := by
      intro a i j
      by_cases c2 : j = a * 5 + i
      · subst c2; rw [va_up_s, if_pos (by omega)]
      · rw [va_up_n _ _ c2]
        by_cases c1 : a * 5 ≤ j ∧ j < a * 5 + i
        · rw [if_pos c1, if_pos (by omega)]
        · rw [if_neg c1, if_neg (by omega)]
    have fvs : ∀ a, fvF (kS (aK A)) (kU (aK A)) c (a + 1) = if sdone (plG (fgS (kS (aK A)) a) (kU (aK A)).2 (kU (aK A)).1) = c then fvF (kS (aK A)) (kU (aK A)) c a ||| (nI 1 <<< (nI a &&& 31)) else fvF (kS (aK A)) (kU (aK A)) c a := fun _ => rfl
    refine ⟨.int (fvF (kS (aK A)) (kU (aK A)) c (sn (kS (aK A)))), A, ho, fun I L Q pc hq => ?_, fun I L Q pm hq => ?_⟩
    · obtain ⟨⟨hp, lp, pp, ep⟩, hk, hi0, hi1, ht, hb, hf, hr, hh⟩ := id pc
      have loop : ∀ k a (I1 : zI), a + k = sn (kS (aK A)) → (∀ q, q < 31 ∨ 33 < q → I1 q = I q) → Zp G 112 17 [some (.ref 0), some (.int (nI c)), some (.int (fvF (kS (aK A)) (kU (aK A)) c a)), some (.int (nI a))] [] I1 L Q := by
        intro k
        induction k with
        | zero =>
          intro a I1 hi f1
          have e : a = sn (kS (aK A)) := by omega
          subst e
          have hp1 : Sp I1 2 (kS (aK A)) := hp.fr (f1 _ (by decide)) (f1 _ (by decide)) (f1 _ (by decide))
          refine Zp.iload_n k_112_17 rfl ?_
          refine Zp.aload_n k_112_18 rfl ?_
          refine Zp.getR k_112_19 rfl (zlt rfl) m_0 r_0_0 ?_
          refine Zp.getR k_112_22 rfl (zlt rfl) m_1 r_1_0 ?_
          refine Zp.getV k_112_25 rfl (zlt rfl) m_2 hp1.1 ?_
          refine Zp.icmp_geN k_112_28 (by omega) (by omega) (fun c_28 => ?_) (fun c_28 => absurd c_28 (by omega))
          refine Zp.iload_n k_112_92 rfl ?_
          refine Zp.iret _ k_112_93 vr_112 rfl ?_
          exact hq I1 (pc.try_ f1) (fun q h => f1 q (by omega))
        | succ k ih =>
          intro a I1 hi f1
          have hp1 : Sp I1 2 (kS (aK A)) := hp.fr (f1 _ (by decide)) (f1 _ (by decide)) (f1 _ (by decide))
          have fo := fgS_o so a
          have go := (plG_o fo (kU (aK A)).2 (kU (aK A)).1).2.2.2.1
          have ih1 := fun I2 => ih (a + 1) I2 (by omega)
          rw [fvs] at ih1
          refine Zp.iload_n k_112_17 rfl ?_
          refine Zp.aload_n k_112_18 rfl ?_
          refine Zp.getR k_112_19 rfl (zlt rfl) m_0 r_0_0 ?_
          refine Zp.getR k_112_22 rfl (zlt rfl) m_1 r_1_0 ?_
          refine Zp.getV k_112_25 rfl (zlt rfl) m_2 hp1.1 ?_
          refine Zp.icmp_geN k_112_28 (by omega) (by omega) (fun c_28 => absurd c_28 (by omega)) (fun c_28 => ?_)
          refine Zp.aload_n k_112_31 rfl ?_
          refine Zp.getR k_112_32 rfl (zlt rfl) m_0 r_0_5 ?_
          refine Zp.aload_n k_112_35 rfl ?_
          refine Zp.getR k_112_36 rfl (zlt rfl) m_0 r_0_0 ?_
          refine Zp.getR k_112_39 rfl (zlt rfl) m_1 r_1_0 ?_
          refine Zp.callv1V v_55 k_112_42 m_31 (Nat.le_of_ble_eq_true rfl) (Nat.le_of_ble_eq_true rfl) (c_Soup_copyFrom sa_31 sa_2 (by omega) hp1 so (fun I2 hs2 f2 => ⟨rfl, ?_⟩))
          refine Zp.aload_n k_112_45 rfl ?_
          refine Zp.getR k_112_46 rfl (zlt rfl) m_0 r_0_5 ?_
          refine Zp.iload_n k_112_49 rfl ?_
          refine Zp.callv1I v_66 k_112_50 m_31 (Nat.le_of_ble_eq_true rfl) (Nat.le_of_ble_eq_true rfl) (c_forgiveAll sa_31 hs2 so sz (by omega) (fun I3 hs3 f3 => ⟨_, rfl, ?_⟩))
          refine Zp.pop k_112_53 rfl ?_
          refine Zp.aload_n k_112_54 rfl ?_
          refine Zp.getR k_112_55 rfl (zlt rfl) m_0 r_0_0 ?_
          refine Zp.getR k_112_58 rfl (zlt rfl) m_1 r_1_2 ?_
          refine Zp.aload_n k_112_61 rfl ?_
          refine Zp.getR k_112_62 rfl (zlt rfl) m_0 r_0_5 ?_
          refine Zp.callv1I v_12 k_112_65 m_9 (Nat.le_of_ble_eq_true rfl) (Nat.le_of_ble_eq_true rfl) (c_stirAll (S := fgS (kS (aK A)) a) pa_9 (pp.fr ((f3 _ (by decide)).trans ((f2 _ (by decide) (by decide) (by decide)).trans (f1 _ (by decide)))) ((f3 _ (by decide)).trans ((f2 _ (by decide) (by decide) (by decide)).trans (f1 _ (by decide))))) po sa_31 hs3 fo (by show sstep (kS (aK A)) < _; omega) (by omega) (fun I4 hs4 f4 => ⟨_, rfl, ?_⟩))
          refine Zp.pop k_112_68 rfl ?_
          refine Zp.aload_n k_112_69 rfl ?_
          refine Zp.getR k_112_70 rfl (zlt rfl) m_0 r_0_5 ?_
          refine Zp.getV k_112_73 rfl (zlt rfl) m_31 hs4.2.2.2.2.1 ?_
          refine Zp.iload_n k_112_76 rfl ?_
          refine Zp.icmp_neN k_112_77 (by omega) (by omega) (fun c_77 => ?_) (fun c_77 => ?_)
          · refine Zp.iinc (nI (_ + 1)) [some (.ref _), some (.int _), some (.int _), some (.int _)] k_112_86 rfl (nI_1 _) (Nat.lt_of_lt_of_eq (zlt rfl : 3 < 4) vl_112.symm) rfl ?_
            refine Zp.goto k_112_89 ?_
            have f5 : ∀ q, q < 31 ∨ 33 < q → I4 q = I q := fun q h => (f4 q (by omega) (by omega)).trans ((f3 q (by omega)).trans ((f2 q (by omega) (by omega) (by omega)).trans (f1 q h)))
            first | (rw [if_pos c_77] at ih1; exact ih1 I4 f5) | (rw [if_neg c_77] at ih1; exact ih1 I4 f5)
          · refine Zp.iload_n k_112_80 rfl ?_
            refine Zp.iconst (nI 1) k_112_81 (by decide) ?_
            refine Zp.iload_n k_112_82 rfl ?_
            refine Zp.ishl k_112_83 ?_
            refine Zp.ior k_112_84 ?_
            refine Zp.istore_n [some (.ref _), some (.int _), some (.int _), some (.int _)] k_112_85 (Nat.lt_of_lt_of_eq (zlt rfl : 2 < 4) vl_112.symm) rfl ?_
            refine Zp.iinc (nI (_ + 1)) [some (.ref _), some (.int _), some (.int _), some (.int _)] k_112_86 rfl (nI_1 _) (Nat.lt_of_lt_of_eq (zlt rfl : 3 < 4) vl_112.symm) rfl ?_
            refine Zp.goto k_112_89 ?_
            have f5 : ∀ q, q < 31 ∨ 33 < q → I4 q = I q := fun q h => (f4 q (by omega) (by omega)).trans ((f3 q (by omega)).trans ((f2 q (by omega) (by omega) (by omega)).trans (f1 q h)))
            first | (rw [if_pos c_77] at ih1; exact ih1 I4 f5) | (rw [if_neg c_77] at ih1; exact ih1 I4 f5)
      
      refine Zm.go [some (.ref _), some (.int _), none, none] vl_112 rfl ?_
      refine Zp.iload_n k_112_0 rfl ?_
      refine Zp.iconst (nI 0) k_112_1 (by decide) ?_
      refine Zp.sipush (nI 999) k_112_2 (by decide) ?_
      refine Zp.calls3I vs_129 k_112_5 (Nat.le_of_ble_eq_true rfl) (Nat.le_of_ble_eq_true rfl) (c_isWithin (nI_toInt (by omega)) (nI_toInt (by omega)) (nI_toInt (by omega)) ⟨_, rfl, ?_⟩)
      refine Zp.if_neB k_112_8 (fun c_8 => ?_) (fun c_8 => absurd c_8 (by omega))
      refine Zp.iconst (nI 0) k_112_13 (by decide) ?_
      refine Zp.istore_n [some (.ref _), some (.int _), some (.int _), none] k_112_14 (Nat.lt_of_lt_of_eq (zlt rfl : 2 < 4) vl_112.symm) rfl ?_
      refine Zp.iconst (nI 0) k_112_15 (by decide) ?_
      refine Zp.istore_n [some (.ref _), some (.int _), some (.int _), some (.int _)] k_112_16 (Nat.lt_of_lt_of_eq (zlt rfl : 3 < 4) vl_112.symm) rfl ?_
      exact loop (sn (kS (aK A))) 0 I (by omega) (fun _ _ => rfl)
    · obtain ⟨m3, ⟨mp, xp⟩, m4, ms1, ms2, ms3, mk0, mk1, mi0, mi1, mt, mb, mf, mr, mh⟩ := id pm
      have lcN : ∀ (v1 v2 v3 v4 v5 : Value) (j : Nat) (u : Value), ([some v1, some v2, some v3, some v4, none] : List (Option Value))[j]? = some (some u) → ([some v1, some v2, some v3, some v4, some v5] : List (Option Value))[j]? = some (some u) := by
        intro v1 v2 v3 v4 v5 j u hj
        match j, hj with
        | 0, hj => exact hj
        | 1, hj => exact hj
        | 2, hj => exact hj
        | 3, hj => exact hj
        | 4, hj => exact absurd hj (by simp)
        | _ + 5, hj => exact absurd hj (by simp)
      have loop : ∀ k a (I1 : zI), a + k = sn (kS (aK A)) → PicM A I1 → FrM I I1 → Zp G 212 18 [some (.ref 93), some (.int (nI c)), some (.int (fvF (kS (aK A)) (kU (aK A)) c a)), some (.int (nI a)), none] [] I1 L Q := by
        intro k
        induction k with
        | zero =>
          intro a I1 hi pm1 f1
          have e : a = sn (kS (aK A)) := by omega
          subst e
          refine Zp.iload_n k_212_18 rfl ?_
          refine Zp.aload_n k_212_19 rfl ?_
          refine Zp.getV k_212_20 rfl (zlt rfl) m_93 pm1.1 ?_
          refine Zp.icmp_geN k_212_23 (by omega) (by omega) (fun c_23 => ?_) (fun c_23 => absurd c_23 (by omega))
          refine Zp.iload_n k_212_90 rfl ?_
          refine Zp.iret _ k_212_91 vr_212 rfl ?_
          exact hq I1 L pm1 f1
        | succ k ih =>
          intro a I1 hi pm1 f1
          have fo := fgS_o so a
          have go := (plG_o fo (kU (aK A)).2 (kU (aK A)).1).2.2.2.1
          have ih1 := fun I2 => ih (a + 1) I2 (by omega)
          rw [fvs] at ih1
          have rest : ∀ (I2 : zI) (v5 : Int32), PicM A I2 → FrM I1 I2 → Mp (I2 95) (fgS (kS (aK A)) a) → Xp (I2 95) (lu (kP (aK A))) (kU (aK A)) (kE (aK A)) → Zp G 212 56 [some (.ref 93), some (.int (nI c)), some (.int (fvF (kS (aK A)) (kU (aK A)) c a)), some (.int (nI a)), some (.int v5)] [] I2 L Q := by
            intro I2 v5 pm2 f2 mq2 xq2
            refine Zp.aload_n k_212_56 rfl ?_
            refine Zp.callv0V v_171 k_212_57 m_93 (Nat.le_of_ble_eq_true rfl) (Nat.le_of_ble_eq_true rfl) (c_plansGoM mq2 fo xq2 po (by show sstep (kS (aK A)) < _; omega) (fun I3 mp3 h25 g1 g2 g3 => ⟨rfl, ?_⟩))
            refine Zp.iload_n k_212_60 rfl ?_
            refine Zp.aload_n k_212_61 rfl ?_
            refine Zp.getR k_212_62 rfl (zlt rfl) m_93 r_93_1 ?_
            refine Zp.bipush (nI 33) k_212_65 (by decide) ?_
            refine Zp.iald _ k_212_67 m_95 rfl (by omega) (zlt rfl) mp3.2.2.2.2.2.1 ?_
            refine Zp.iload_n k_212_68 rfl ?_
            refine Zp.icmp_neN k_212_69 (by omega) (by omega) (fun c_69 => ?_) (fun c_69 => ?_)
            · refine Zp.iconst (nI 0) k_212_76 (by decide) ?_
              refine Zp.calls1I vs_132 k_212_77 (Nat.le_of_ble_eq_true rfl) (Nat.le_of_ble_eq_true rfl) (c_flagNM (by decide) ⟨_, rfl, ?_⟩)
              refine Zp.iload_n k_212_80 rfl ?_
              refine Zp.ishl k_212_81 ?_
              refine Zp.ior k_212_82 ?_
              refine Zp.istore_n [some (.ref _), some (.int _), some (.int _), some (.int _), some (.int _)] k_212_83 (Nat.lt_of_lt_of_eq (zlt rfl : 2 < 5) vl_212.symm) rfl ?_
              refine Zp.iinc (nI (_ + 1)) [some (.ref _), some (.int _), some (.int _), some (.int _), some (.int _)] k_212_84 rfl (nI_1 _) (Nat.lt_of_lt_of_eq (zlt rfl : 3 < 5) vl_212.symm) rfl ?_
              refine Zp.goto k_212_87 ?_
              have pm3 : PicM A I3 := pm2.fr (g2 3 (by decide)) (g2 4 (by decide)) (g2 18 (by decide)) (g2 23 (by decide)) (g2 34 (by decide)) (fun q h => g1 q (by omega) (by omega))
              have f3 : FrM I I3 := fun q h => (g1 q (by omega) (by omega)).trans ((f2 q h).trans (f1 q h))
              have i3 := ih1 I3 pm3 f3
              first | (rw [if_pos (by omega)] at i3; exact Zp.locs _ (lcN _ _ _ _ _) i3) | (rw [if_neg (by omega)] at i3; rw [or0 _ (by omega)]; exact Zp.locs _ (lcN _ _ _ _ _) i3)
            · refine Zp.iconst (nI 1) k_212_72 (by decide) ?_
              refine Zp.goto k_212_73 ?_
              refine Zp.calls1I vs_132 k_212_77 (Nat.le_of_ble_eq_true rfl) (Nat.le_of_ble_eq_true rfl) (c_flagNM (by decide) ⟨_, rfl, ?_⟩)
              refine Zp.iload_n k_212_80 rfl ?_
              refine Zp.ishl k_212_81 ?_
              refine Zp.ior k_212_82 ?_
              refine Zp.istore_n [some (.ref _), some (.int _), some (.int _), some (.int _), some (.int _)] k_212_83 (Nat.lt_of_lt_of_eq (zlt rfl : 2 < 5) vl_212.symm) rfl ?_
              refine Zp.iinc (nI (_ + 1)) [some (.ref _), some (.int _), some (.int _), some (.int _), some (.int _)] k_212_84 rfl (nI_1 _) (Nat.lt_of_lt_of_eq (zlt rfl : 3 < 5) vl_212.symm) rfl ?_
              refine Zp.goto k_212_87 ?_
              have pm3 : PicM A I3 := pm2.fr (g2 3 (by decide)) (g2 4 (by decide)) (g2 18 (by decide)) (g2 23 (by decide)) (g2 34 (by decide)) (fun q h => g1 q (by omega) (by omega))
              have f3 : FrM I I3 := fun q h => (g1 q (by omega) (by omega)).trans ((f2 q h).trans (f1 q h))
              have i3 := ih1 I3 pm3 f3
              first | (rw [if_pos (by omega)] at i3; exact Zp.locs _ (lcN _ _ _ _ _) i3) | (rw [if_neg (by omega)] at i3; rw [or0 _ (by omega)]; exact Zp.locs _ (lcN _ _ _ _ _) i3)
          have inner : ∀ k2 i (I2 : zI), i + k2 = sn (kS (aK A)) → PicM A I2 → FrM I1 I2 → Mp (I2 95) (sUht (kS (aK A)) (fun j => if a * 5 ≤ j ∧ j < a * 5 + i then 0 else sht (kS (aK A)) j)) → Xp (I2 95) (lu (kP (aK A))) (kU (aK A)) (kE (aK A)) → Zp G 212 33 [some (.ref 93), some (.int (nI c)), some (.int (fvF (kS (aK A)) (kU (aK A)) c a)), some (.int (nI a)), some (.int (nI i))] [] I2 L Q := by
            intro k2
            induction k2 with
            | zero =>
              intro i I2 hi2 pm2 f2 mq2 xq2
              have e : i = sn (kS (aK A)) := by omega
              subst e
              rw [fgS_cut sz (by omega) o1] at mq2
              refine Zp.iload k_212_33 rfl ?_
              refine Zp.aload_n k_212_35 rfl ?_
              refine Zp.getV k_212_36 rfl (zlt rfl) m_93 pm2.1 ?_
              refine Zp.icmp_geN k_212_39 (by omega) (by omega) (fun c_39 => ?_) (fun c_39 => absurd c_39 (by omega))
              exact rest I2 _ pm2 f2 mq2 xq2
            | succ k2 ih2 =>
              intro i I2 hi2 pm2 f2 mq2 xq2
              refine Zp.iload k_212_33 rfl ?_
              refine Zp.aload_n k_212_35 rfl ?_
              refine Zp.getV k_212_36 rfl (zlt rfl) m_93 pm2.1 ?_
              refine Zp.icmp_geN k_212_39 (by omega) (by omega) (fun c_39 => absurd c_39 (by omega)) (fun c_39 => ?_)
              refine Zp.aload_n k_212_42 rfl ?_
              refine Zp.iload_n k_212_43 rfl ?_
              refine Zp.iload k_212_44 rfl ?_
              refine Zp.iconst (nI 0) k_212_46 (by decide) ?_
              refine Zp.callv3V v_162 k_212_47 m_93 (Nat.le_of_ble_eq_true rfl) (Nat.le_of_ble_eq_true rfl) (c_becomesHateM mq2 (by show sn (kS (aK A)) ≤ 5; omega) (by omega) (by omega) (v := 0) (by decide) (fun I3 mq3 f3 => ⟨rfl, ?_⟩))
              refine Zp.iinc (nI (_ + 1)) [some (.ref _), some (.int _), some (.int _), some (.int _), some (.int _)] k_212_50 rfl (nI_1 _) (Nat.lt_of_lt_of_eq (zlt rfl : 4 < 5) vl_212.symm) rfl ?_
              refine Zp.goto k_212_53 ?_
              refine ih2 (i + 1) I3 (by omega) (pm2.at f3.1) (fun q h => (f3.1 q (by omega)).trans (f2 q h)) ?_ (xq2.at f3.2)
              rw [← show va_up (fun j => if a * 5 ≤ j ∧ j < a * 5 + i then 0 else sht (kS (aK A)) j) (a * 5 + i) 0 = fun j => if a * 5 ≤ j ∧ j < a * 5 + (i + 1) then 0 else sht (kS (aK A)) j from funext fun j => hv2 a i j]
              exact mq3
          refine Zp.iload_n k_212_18 rfl ?_
          refine Zp.aload_n k_212_19 rfl ?_
          refine Zp.getV k_212_20 rfl (zlt rfl) m_93 pm1.1 ?_
          refine Zp.icmp_geN k_212_23 (by omega) (by omega) (fun c_23 => absurd c_23 (by omega)) (fun c_23 => ?_)
          refine Zp.aload_n k_212_26 rfl ?_
          refine Zp.callv0V v_159 k_212_27 m_93 (Nat.le_of_ble_eq_true rfl) (Nat.le_of_ble_eq_true rfl) (c_goM pm1 ho (fun I2 pm2 mq xq s2 => ⟨rfl, ?_⟩))
          refine Zp.iconst (nI 0) k_212_30 (by decide) ?_
          refine Zp.istore [some (.ref _), some (.int _), some (.int _), some (.int _), some (.int _)] k_212_31 (Nat.lt_of_lt_of_eq (zlt rfl : 4 < 5) vl_212.symm) rfl ?_
          exact inner (sn (kS (aK A))) 0 I2 (by omega) pm2 (fun q h => s2 q (by omega)) (mq.uht0 a) xq
      
      refine Zm.go [some (.ref _), some (.int _), none, none, none] vl_212 rfl ?_
      refine Zp.iload_n k_212_0 rfl ?_
      refine Zp.i2l k_212_1 ?_
      refine Zp.lconst (lN 0) k_212_2 (by decide) ?_
      refine Zp.ldc2 (lN 999) k_212_3 (by decide) ?_
      refine Zp.calls3I vs_131 k_212_6 (Nat.le_of_ble_eq_true rfl) (Nat.le_of_ble_eq_true rfl) (c_in (zi2n (by omega)) (lN_z (by decide)) (lN_z (by decide)) ⟨_, rfl, ?_⟩)
      refine Zp.if_neB k_212_9 (fun c_9 => ?_) (fun c_9 => absurd c_9 (by omega))
      refine Zp.iconst (nI 0) k_212_14 (by decide) ?_
      refine Zp.istore_n [some (.ref _), some (.int _), some (.int _), none, none] k_212_15 (Nat.lt_of_lt_of_eq (zlt rfl : 2 < 5) vl_212.symm) rfl ?_
      refine Zp.iconst (nI 0) k_212_16 (by decide) ?_
      refine Zp.istore_n [some (.ref _), some (.int _), some (.int _), some (.int _), none] k_212_17 (Nat.lt_of_lt_of_eq (zlt rfl : 3 < 5) vl_212.symm) rfl ?_
      exact loop (sn (kS (aK A))) 0 I (by omega) pm (FrM.rf I)
  · refine ⟨.int (-1), A, ho, fun I L Q pc hq => ?_, fun I L Q pm hq => ?_⟩
    · obtain ⟨⟨hp, lp, pp, ep⟩, hk, hi0, hi1, ht, hb, hf, hr, hh⟩ := id pc
      refine Zm.go [some (.ref _), some (.int _), none, none] vl_112 rfl ?_
      refine Zp.iload_n k_112_0 rfl ?_
      refine Zp.iconst (nI 0) k_112_1 (by decide) ?_
      refine Zp.sipush (nI 999) k_112_2 (by decide) ?_
      refine Zp.calls3I vs_129 k_112_5 (Nat.le_of_ble_eq_true rfl) (Nat.le_of_ble_eq_true rfl) (c_isWithin rfl (nI_toInt (by omega)) (nI_toInt (by omega)) ⟨_, rfl, ?_⟩)
      refine Zp.if_neB k_112_8 (fun c_8 => absurd c_8 (by omega)) (fun c_8 => ?_)
      refine Zp.iconst (-1) k_112_11 (by decide) ?_
      refine Zp.iret _ k_112_12 vr_112 rfl ?_
      exact hq I pc (FrC.rf I)
    · obtain ⟨m3, ⟨mp, xp⟩, m4, ms1, ms2, ms3, mk0, mk1, mi0, mi1, mt, mb, mf, mr, mh⟩ := id pm
      refine Zm.go [some (.ref _), some (.int _), none, none, none] vl_212 rfl ?_
      refine Zp.iload_n k_212_0 rfl ?_
      refine Zp.i2l k_212_1 ?_
      refine Zp.lconst (lN 0) k_212_2 (by decide) ?_
      refine Zp.ldc2 (lN 999) k_212_3 (by decide) ?_
      refine Zp.calls3I vs_131 k_212_6 (Nat.le_of_ble_eq_true rfl) (Nat.le_of_ble_eq_true rfl) (c_in (zi2l _) (lN_z (by decide)) (lN_z (by decide)) ⟨_, rfl, ?_⟩)
      refine Zp.if_neB k_212_9 (fun c_9 => absurd c_9 (by omega)) (fun c_9 => ?_)
      refine Zp.iconst (-1) k_212_12 (by decide) ?_
      refine Zp.iret _ k_212_13 vr_212 rfl ?_
      first | exact hq I L pm (FrM.rf I) | exact hq I2 L pm2 (fun q hq => s2 q (by omega))
end FORGAVE
