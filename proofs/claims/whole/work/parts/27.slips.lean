/-! SLIPS -/
section SLIPS0
variable {G : zG} {A : zQs} {I : zI} {L : zJ} {Q : zP}
theorem c_slipsLoop {c : Nat} (ho : Ao A)
    (hq : ∀ I', PicM A I' → FrM I I' → Zp G 202 152 [some (.ref 93), some (.int (nI c)), some (.int (nI (((slF (kS (aK A)) (kP (aK A)) (kU (aK A)) (2 ^ lc (kP (aK A)))).map bc2).getD 1000000))), some (.int (slV (slF (kS (aK A)) (kP (aK A)) (kU (aK A)) (2 ^ lc (kP (aK A)))))), some (.int (nI (2 ^ lc (kP (aK A))))), none] [] I' L Q) :
    ∀ k i (I1 : zI), i + k = 2 ^ lc (kP (aK A)) → PicM A I1 → FrM I I1 → Zp G 202 19 [some (.ref 93), some (.int (nI c)), some (.int (nI (((slF (kS (aK A)) (kP (aK A)) (kU (aK A)) i).map bc2).getD 1000000))), some (.int (slV (slF (kS (aK A)) (kP (aK A)) (kU (aK A)) i))), some (.int (nI i)), none] [] I1 L Q := by
  obtain ⟨⟨so, sz, sst, lo, po, eo⟩, ok0, ok1, oi0, oi1, ot, ob, of_, or_, oh⟩ := id ho
  obtain ⟨o1, o2, o3, o4, o5, o6, o7⟩ := id so
  obtain ⟨p1, p2, p3⟩ := id lo
  obtain ⟨u1, u2⟩ := id po
  obtain ⟨e1, e2⟩ := id eo
  have h64 : 2 ^ lc (kP (aK A)) ≤ 64 := Nat.pow_le_pow_right (n := 2) (by decide) p1
  have lcN : ∀ (v1 v2 v3 v4 v5 v6 : Value) (j : Nat) (u : Value), ([some v1, some v2, some v3, some v4, some v5, none] : List (Option Value))[j]? = some (some u) → ([some v1, some v2, some v3, some v4, some v5, some v6] : List (Option Value))[j]? = some (some u) := by
    intro v1 v2 v3 v4 v5 v6 j u hj
    match j, hj with
    | 0, hj => exact hj
    | 1, hj => exact hj
    | 2, hj => exact hj
    | 3, hj => exact hj
    | 4, hj => exact hj
    | 5, hj => exact absurd hj (by simp)
    | _ + 6, hj => exact absurd hj (by simp)
  intro k
  induction k with
  | zero =>
    intro i I1 hi pm1 f1
    have e : i = 2 ^ lc (kP (aK A)) := by omega
    subst e
    refine Zp.iload k_202_19 rfl ?_
    refine Zp.iconst (nI 1) k_202_21 (by decide) ?_
    refine Zp.aload_n k_202_22 rfl ?_
    refine Zp.getV k_202_23 rfl (zlt rfl) m_93 pm1.2.2.1 ?_
    refine Zp.ishl k_202_26 ?_
    rw [one_shl (by omega)]
    refine Zp.icmp_geN k_202_27 (by omega) (by omega) (fun c_27 => ?_) (fun c_27 => absurd c_27 (by omega))
    exact hq I1 pm1 f1
  | succ k ih =>
    intro i I1 hi pm1 f1
    obtain ⟨m3, ⟨mp, xp⟩, m4, ms1, ms2, ms3, mk0, mk1, mi0, mi1, mt, mb, mf, mr, mh⟩ := id pm1
    have b1 := bc2_le i
    have b2 : ((slF (kS (aK A)) (kP (aK A)) (kU (aK A)) i).map bc2).getD 1000000 ≤ 1000000 ∧ (bc2 i < ((slF (kS (aK A)) (kP (aK A)) (kU (aK A)) i).map bc2).getD 1000000 ↔ bc2 i < ((slF (kS (aK A)) (kP (aK A)) (kU (aK A)) i).map bc2).getD 7) := by
      cases slF (kS (aK A)) (kP (aK A)) (kU (aK A)) i with
      | none => exact ⟨Nat.le_refl _, ⟨fun _ => by show bc2 i < 7; omega, fun _ => by show bc2 i < 1000000; omega⟩⟩
      | some d => exact ⟨Nat.le_trans (bc2_le d) (by decide), Iff.rfl⟩
    have ih1 := fun I2 => ih (i + 1) I2 (by omega)
    have hm : slF (kS (aK A)) (kP (aK A)) (kU (aK A)) (i + 1) = if ((nI i &&& nI (lu (kP (aK A)))) = 0 ∧ bc2 i < ((slF (kS (aK A)) (kP (aK A)) (kU (aK A)) i).map bc2).getD 7) ∧ sneed (kS (aK A)) ≤ sdone (wsD (kS (aK A)) (kP (aK A)) (kU (aK A)) i) then some i else slF (kS (aK A)) (kP (aK A)) (kU (aK A)) i := rfl
    rw [hm] at ih1
    have w1 := wsG_n (kS (aK A)) (kP (aK A)) i (lc (kP (aK A)))
    have w2 := wsG_o so (kP (aK A)) i (lc (kP (aK A)))
    have w3 := plG_n (wsG (kS (aK A)) (kP (aK A)) i (lc (kP (aK A)))) (kU (aK A)).2 (kU (aK A)).1
    have w4 := plG_o w2 (kU (aK A)).2 (kU (aK A)).1
    have w5 := w4.2.2.2.1
    have w6 := w4.2.1
    have jn : ∀ (I2 : zI) (v2 v3 v6 : Int32), Zp G 202 19 [some (.ref 93), some (.int (nI c)), some (.int v2), some (.int v3), some (.int (nI (i + 1))), none] [] I2 L Q → Zp G 202 146 [some (.ref 93), some (.int (nI c)), some (.int v2), some (.int v3), some (.int (nI i)), some (.int v6)] [] I2 L Q := by
      intro I2 v2 v3 v6 k8
      refine Zp.iinc (nI (_ + 1)) [some (.ref _), some (.int _), some (.int _), some (.int _), some (.int _), some (.int _)] k_202_146 rfl (nI_1 _) (Nat.lt_of_lt_of_eq (zlt rfl : 4 < 6) vl_202.symm) rfl ?_
      refine Zp.goto k_202_149 ?_
      exact Zp.locs _ (lcN _ _ _ _ _ _) k8
    have jn0 : ∀ (I2 : zI) (v2 v3 : Int32), Zp G 202 19 [some (.ref 93), some (.int (nI c)), some (.int v2), some (.int v3), some (.int (nI (i + 1))), none] [] I2 L Q → Zp G 202 146 [some (.ref 93), some (.int (nI c)), some (.int v2), some (.int v3), some (.int (nI i)), none] [] I2 L Q := by
      intro I2 v2 v3 k8
      refine Zp.iinc (nI (_ + 1)) [some (.ref _), some (.int _), some (.int _), some (.int _), some (.int _), none] k_202_146 rfl (nI_1 _) (Nat.lt_of_lt_of_eq (zlt rfl : 4 < 6) vl_202.symm) rfl ?_
      refine Zp.goto k_202_149 ?_
      exact k8
    have rest : ∀ (I2 : zI) (u : Nat) (v6 : Int32), (nI i &&& nI (lu (kP (aK A)))) = 0 → bc2 i < ((slF (kS (aK A)) (kP (aK A)) (kU (aK A)) i).map bc2).getD 7 → PicM A I2 → FrM I1 I2 → Mp (I2 95) (wsG (kS (aK A)) (kP (aK A)) i (lc (kP (aK A)))) → Xp (I2 95) u (kU (aK A)) (kE (aK A)) → Zp G 202 91 [some (.ref 93), some (.int (nI c)), some (.int (nI (((slF (kS (aK A)) (kP (aK A)) (kU (aK A)) i).map bc2).getD 1000000))), some (.int (slV (slF (kS (aK A)) (kP (aK A)) (kU (aK A)) i))), some (.int (nI i)), some (.int v6)] [] I2 L Q := by
      intro I2 u v6 h1 h2 pm2 f2 mq2 xq2
      refine Zp.aload_n k_202_91 rfl ?_
      refine Zp.callv0V v_171 k_202_92 m_93 (Nat.le_of_ble_eq_true rfl) (Nat.le_of_ble_eq_true rfl) (c_plansGoM mq2 w2 xq2 (po.n w1.1) (by omega) (fun I3 mp3 h25 g1 g2 g3 => ⟨rfl, ?_⟩))
      refine Zp.aload_n k_202_95 rfl ?_
      refine Zp.getR k_202_96 rfl (zlt rfl) m_93 r_93_1 ?_
      refine Zp.bipush (nI 33) k_202_99 (by decide) ?_
      refine Zp.iald _ k_202_101 m_95 rfl (by omega) (zlt rfl) mp3.2.2.2.2.2.1 ?_
      refine Zp.aload_n k_202_102 rfl ?_
      refine Zp.getR k_202_103 rfl (zlt rfl) m_93 r_93_1 ?_
      refine Zp.bipush (nI 30) k_202_106 (by decide) ?_
      refine Zp.iald _ k_202_108 m_95 rfl (by omega) (zlt rfl) mp3.2.2.1 ?_
      refine Zp.icmp_ltN k_202_109 (by omega) (by omega) (fun c_109 => ?_) (fun c_109 => ?_)
      · refine Zp.iconst (nI 0) k_202_116 (by decide) ?_
        refine Zp.istore [some (.ref _), some (.int _), some (.int _), some (.int _), some (.int _), some (.int _)] k_202_117 (Nat.lt_of_lt_of_eq (zlt rfl : 5 < 6) vl_202.symm) rfl ?_
        refine Zp.iload k_202_119 rfl ?_
        refine Zp.if_eqN k_202_121 (by omega) (fun _ => ?_) (fun c => absurd c (by decide))
        refine Zp.iload_n k_202_129 rfl ?_
        refine Zp.istore_n [some (.ref _), some (.int _), some (.int _), some (.int _), some (.int _), some (.int _)] k_202_130 (Nat.lt_of_lt_of_eq (zlt rfl : 3 < 6) vl_202.symm) rfl ?_
        refine Zp.iload k_202_131 rfl ?_
        refine Zp.if_eqN k_202_133 (by omega) (fun _ => ?_) (fun c => absurd c (by decide))
        refine Zp.iload_n k_202_144 rfl ?_
        refine Zp.istore_n [some (.ref _), some (.int _), some (.int _), some (.int _), some (.int _), some (.int _)] k_202_145 (Nat.lt_of_lt_of_eq (zlt rfl : 2 < 6) vl_202.symm) rfl ?_
        have pm3 : PicM A I3 := pm2.fr (g2 3 (by decide)) (g2 4 (by decide)) (g2 18 (by decide)) (g2 23 (by decide)) (g2 34 (by decide)) (fun q h => g1 q (by omega) (by omega))
        have f3 : FrM I I3 := fun q h => (g1 q (by omega) (by omega)).trans ((f2 q h).trans (f1 q h))
        have i3 := ih1 I3 pm3 f3
        unfold wsD at i3
        first | (rw [if_pos ⟨⟨h1, h2⟩, by omega⟩] at i3; exact jn I3 _ _ _ i3) | (rw [if_neg (fun z => absurd z.2 (by omega))] at i3; exact jn I3 _ _ _ i3)
      · refine Zp.iconst (nI 1) k_202_112 (by decide) ?_
        refine Zp.goto k_202_113 ?_
        refine Zp.istore [some (.ref _), some (.int _), some (.int _), some (.int _), some (.int _), some (.int _)] k_202_117 (Nat.lt_of_lt_of_eq (zlt rfl : 5 < 6) vl_202.symm) rfl ?_
        refine Zp.iload k_202_119 rfl ?_
        refine Zp.if_eqN k_202_121 (by omega) (fun c => absurd c (by decide)) (fun _ => ?_)
        refine Zp.iload k_202_124 rfl ?_
        refine Zp.goto k_202_126 ?_
        refine Zp.istore_n [some (.ref _), some (.int _), some (.int _), some (.int _), some (.int _), some (.int _)] k_202_130 (Nat.lt_of_lt_of_eq (zlt rfl : 3 < 6) vl_202.symm) rfl ?_
        refine Zp.iload k_202_131 rfl ?_
        refine Zp.if_eqN k_202_133 (by omega) (fun c => absurd c (by decide)) (fun _ => ?_)
        refine Zp.iload k_202_136 rfl ?_
        refine Zp.calls1I vs_201 k_202_138 (Nat.le_of_ble_eq_true rfl) (Nat.le_of_ble_eq_true rfl) (c_bitsOfM (by omega) ⟨_, rfl, ?_⟩)
        refine Zp.goto k_202_141 ?_
        refine Zp.istore_n [some (.ref _), some (.int _), some (.int _), some (.int _), some (.int _), some (.int _)] k_202_145 (Nat.lt_of_lt_of_eq (zlt rfl : 2 < 6) vl_202.symm) rfl ?_
        have pm3 : PicM A I3 := pm2.fr (g2 3 (by decide)) (g2 4 (by decide)) (g2 18 (by decide)) (g2 23 (by decide)) (g2 34 (by decide)) (fun q h => g1 q (by omega) (by omega))
        have f3 : FrM I I3 := fun q h => (g1 q (by omega) (by omega)).trans ((f2 q h).trans (f1 q h))
        have i3 := ih1 I3 pm3 f3
        unfold wsD at i3
        first | (rw [if_pos ⟨⟨h1, h2⟩, by omega⟩] at i3; exact jn I3 _ _ _ i3) | (rw [if_neg (fun z => absurd z.2 (by omega))] at i3; exact jn I3 _ _ _ i3)
    have inner : ∀ k2 j u (I2 : zI), (nI i &&& nI (lu (kP (aK A)))) = 0 → bc2 i < ((slF (kS (aK A)) (kP (aK A)) (kU (aK A)) i).map bc2).getD 7 → j + k2 = lc (kP (aK A)) → u < 64 → PicM A I2 → FrM I1 I2 → Mp (I2 95) (wsG (kS (aK A)) (kP (aK A)) i j) → Xp (I2 95) u (kU (aK A)) (kE (aK A)) → Zp G 202 59 [some (.ref 93), some (.int (nI c)), some (.int (nI (((slF (kS (aK A)) (kP (aK A)) (kU (aK A)) i).map bc2).getD 1000000))), some (.int (slV (slF (kS (aK A)) (kP (aK A)) (kU (aK A)) i))), some (.int (nI i)), some (.int (nI j))] [] I2 L Q := by
      intro k2
      induction k2 with
      | zero =>
        intro j u I2 h1 h2 hj hu pm2 f2 mq2 xq2
        have e : j = lc (kP (aK A)) := by omega
        subst e
        refine Zp.iload k_202_59 rfl ?_
        refine Zp.aload_n k_202_61 rfl ?_
        refine Zp.getV k_202_62 rfl (zlt rfl) m_93 pm2.2.2.1 ?_
        refine Zp.icmp_geN k_202_65 (by omega) (by omega) (fun c_65 => ?_) (fun c_65 => absurd c_65 (by omega))
        exact rest I2 u _ h1 h2 pm2 f2 mq2 xq2
      | succ k2 ih2 =>
        intro j u I2 h1 h2 hj hu pm2 f2 mq2 xq2
        have v1 := wsG_n (kS (aK A)) (kP (aK A)) i j
        have v2 := wsG_o so (kP (aK A)) i j
        have ih3 := fun u2 I3 => ih2 (j + 1) u2 I3 h1 h2 (by omega)
        rw [show wsG (kS (aK A)) (kP (aK A)) i (j + 1) = if i / 2 ^ j % 2 = 1 then woS (wsG (kS (aK A)) (kP (aK A)) i j) (kP (aK A)) j else wsG (kS (aK A)) (kP (aK A)) i j from rfl] at ih3
        refine Zp.iload k_202_59 rfl ?_
        refine Zp.aload_n k_202_61 rfl ?_
        refine Zp.getV k_202_62 rfl (zlt rfl) m_93 pm2.2.2.1 ?_
        refine Zp.icmp_geN k_202_65 (by omega) (by omega) (fun c_65 => absurd c_65 (by omega)) (fun c_65 => ?_)
        refine Zp.iload k_202_68 rfl ?_
        refine Zp.iload k_202_70 rfl ?_
        refine Zp.ishr k_202_72 ?_
        refine Zp.iconst (nI 1) k_202_73 (by decide) ?_
        refine Zp.iand k_202_74 ?_
        rw [bit_at (by omega) (by omega)]
        refine Zp.iconst (nI 1) k_202_75 (by decide) ?_
        refine Zp.icmp_neN k_202_76 (by omega) (by omega) (fun c_76 => ?_) (fun c_76 => ?_)
        · refine Zp.iinc (nI (_ + 1)) [some (.ref _), some (.int _), some (.int _), some (.int _), some (.int _), some (.int _)] k_202_85 rfl (nI_1 _) (Nat.lt_of_lt_of_eq (zlt rfl : 5 < 6) vl_202.symm) rfl ?_
          refine Zp.goto k_202_88 ?_
          first | (rw [if_neg c_76] at ih3; exact ih3 u I2 hu pm2 f2 mq2 xq2) | (rw [if_pos c_76] at ih3; exact ih3 _ I3 (bOr_at hu (by omega)).2 (pm2.at s1) (fun q h => (s1 q (by omega)).trans (f2 q h)) mq3 (xq2.bit u1 e35 s2))
        · refine Zp.aload_n k_202_79 rfl ?_
          refine Zp.iload k_202_80 rfl ?_
          refine Zp.callv1V v_179 k_202_82 m_93 (Nat.le_of_ble_eq_true rfl) (Nat.le_of_ble_eq_true rfl) (c_usesM (P := kP (aK A)) mq2 v2 (lo.n v1.1) (by omega) (pm2.2.2.2.1 _ (by omega)) (pm2.2.2.2.2.1 _ (by omega)) (pm2.2.2.2.2.2.1 _ (by omega)) xq2.1 hu (fun I3 mq3 e35 s1 s2 => ⟨rfl, ?_⟩))
          refine Zp.iinc (nI (_ + 1)) [some (.ref _), some (.int _), some (.int _), some (.int _), some (.int _), some (.int _)] k_202_85 rfl (nI_1 _) (Nat.lt_of_lt_of_eq (zlt rfl : 5 < 6) vl_202.symm) rfl ?_
          refine Zp.goto k_202_88 ?_
          first | (rw [if_neg c_76] at ih3; exact ih3 u I2 hu pm2 f2 mq2 xq2) | (rw [if_pos c_76] at ih3; exact ih3 _ I3 (bOr_at hu (by omega)).2 (pm2.at s1) (fun q h => (s1 q (by omega)).trans (f2 q h)) mq3 (xq2.bit u1 e35 s2))
    refine Zp.iload k_202_19 rfl ?_
    refine Zp.iconst (nI 1) k_202_21 (by decide) ?_
    refine Zp.aload_n k_202_22 rfl ?_
    refine Zp.getV k_202_23 rfl (zlt rfl) m_93 m4 ?_
    refine Zp.ishl k_202_26 ?_
    rw [one_shl (by omega)]
    refine Zp.icmp_geN k_202_27 (by omega) (by omega) (fun c_27 => absurd c_27 (by omega)) (fun c_27 => ?_)
    refine Zp.iload k_202_30 rfl ?_
    refine Zp.aload_n k_202_32 rfl ?_
    refine Zp.getR k_202_33 rfl (zlt rfl) m_93 r_93_0 ?_
    refine Zp.bipush (nI 35) k_202_36 (by decide) ?_
    refine Zp.iald _ k_202_38 m_94 rfl (by omega) (zlt rfl) (by first | exact mp.2.2.1 | exact mp.2.2.2.1 | exact mp.2.2.2.2.1 | exact mp.2.2.2.2.2.1 | exact mp.2.2.2.2.2.2 | exact xp.1 | exact xp.2.1 | exact xp.2.2.2.1 | exact xp.2.2.1 _ (by omega) | exact xp.2.2.2.2.2 _ (by omega) | exact xp.2.2.2.2.1 _ (by omega) | exact mp.hh (by omega) (by omega) | exact mp.kk (by omega) | exact mp.2.1 _ (by omega)) ?_
    refine Zp.iand k_202_39 ?_
    refine Zp.if_ne k_202_40 (fun c_40 => ?_) (fun c_40 => ?_)
    · first | (rw [if_neg (fun z => c_40 z.1.1)] at ih1; exact jn0 I1 _ _ (ih1 I1 pm1 f1)) | (rw [if_neg (fun z => absurd (b2.2.mpr z.1.2) (by omega))] at ih1; exact jn0 I1 _ _ (ih1 I1 pm1 f1))
    · refine Zp.iload k_202_43 rfl ?_
      refine Zp.calls1I vs_201 k_202_45 (Nat.le_of_ble_eq_true rfl) (Nat.le_of_ble_eq_true rfl) (c_bitsOfM (by omega) ⟨_, rfl, ?_⟩)
      refine Zp.iload_n k_202_48 rfl ?_
      refine Zp.icmp_geN k_202_49 (by omega) (by omega) (fun c_49 => ?_) (fun c_49 => ?_)
      · first | (rw [if_neg (fun z => c_40 z.1.1)] at ih1; exact jn0 I1 _ _ (ih1 I1 pm1 f1)) | (rw [if_neg (fun z => absurd (b2.2.mpr z.1.2) (by omega))] at ih1; exact jn0 I1 _ _ (ih1 I1 pm1 f1))
      · refine Zp.aload_n k_202_52 rfl ?_
        refine Zp.callv0V v_159 k_202_53 m_93 (Nat.le_of_ble_eq_true rfl) (Nat.le_of_ble_eq_true rfl) (c_goM pm1 ho (fun I2 pm2 mq xq s2 => ⟨rfl, ?_⟩))
        refine Zp.iconst (nI 0) k_202_56 (by decide) ?_
        refine Zp.istore [some (.ref _), some (.int _), some (.int _), some (.int _), some (.int _), some (.int _)] k_202_57 (Nat.lt_of_lt_of_eq (zlt rfl : 5 < 6) vl_202.symm) rfl ?_
        exact inner (lc (kP (aK A))) 0 _ I2 c_40 (b2.2.mp (by omega)) (by omega) p2 pm2 (fun q h => s2 q (by omega)) mq xq
end SLIPS0
section SLIPS1
variable {G : zG} {A : zQs} {x y z : Int32}
theorem B_slips (ho : Ao A) : zBoth G 103 202 [.int x] A := by
  obtain ⟨⟨so, sz, sst, lo, po, eo⟩, ok0, ok1, oi0, oi1, ot, ob, of_, or_, oh⟩ := id ho
  obtain ⟨o1, o2, o3, o4, o5, o6, o7⟩ := id so
  obtain ⟨p1, p2, p3⟩ := id lo
  obtain ⟨u1, u2⟩ := id po
  obtain ⟨e1, e2⟩ := id eo
  have h64 : 2 ^ lc (kP (aK A)) ≤ 64 := Nat.pow_le_pow_right (n := 2) (by decide) p1
  have hlt := fun c h => Nat.lt_of_lt_of_le (slF_lt (kS (aK A)) (kP (aK A)) (kU (aK A)) (2 ^ lc (kP (aK A))) c h) h64
  by_cases v : 0 ≤ x.toInt ∧ x.toInt ≤ 1
  · obtain ⟨c, hc, rfl, ec⟩ := zin_nI (n := 2) v.1 (by omega)
    rcases slV_ge hlt with ⟨e1', e2'⟩ | ⟨d, e2', e1', hd⟩
    · refine ⟨.int (-4), A, ho, fun I L Q pc hq => ?_, fun I L Q pm hq => ?_⟩
      · obtain ⟨⟨hp, lp, pp, ep⟩, hk, hi0, hi1, ht, hb, hf, hr, hh⟩ := id pc
        refine Zm.go [some (.ref _), some (.int _), none] vl_103 rfl ?_
        refine Zp.iload_n k_103_0 rfl ?_
        refine Zp.iconst (nI 0) k_103_1 (by decide) ?_
        refine Zp.iconst (nI 1) k_103_2 (by decide) ?_
        refine Zp.calls3I vs_129 k_103_3 (Nat.le_of_ble_eq_true rfl) (Nat.le_of_ble_eq_true rfl) (c_isWithin (nI_toInt (by omega)) (nI_toInt (by omega)) (nI_toInt (by omega)) ⟨_, rfl, ?_⟩)
        refine Zp.if_neB k_103_6 (fun c_6 => ?_) (fun c_6 => absurd c_6 (by omega))
        refine Zp.aload_n k_103_11 rfl ?_
        refine Zp.callv0I v_104 k_103_12 m_0 (Nat.le_of_ble_eq_true rfl) (Nat.le_of_ble_eq_true rfl) (c_fewest pc ho (fun I2 f2 => ⟨_, rfl, ?_⟩))
        rw [e1']
        refine Zp.istore_n [some (.ref _), some (.int _), some (.int _)] k_103_15 (Nat.lt_of_lt_of_eq (zlt rfl : 2 < 3) vl_103.symm) rfl ?_
        refine Zp.iload_n k_103_16 rfl ?_
        refine Zp.if_geZ (-4) k_103_17 (by decide) (fun c_17 => absurd c_17 (by omega)) (fun c_17 => ?_)
        refine Zp.bipush (-4) k_103_20 (by decide) ?_
        refine Zp.iret _ k_103_22 vr_103 rfl ?_
        exact hq I2 (pc.try_ f2) (fun q h => f2 q (by omega))
      · obtain ⟨m3, ⟨mp, xp⟩, m4, ms1, ms2, ms3, mk0, mk1, mi0, mi1, mt, mb, mf, mr, mh⟩ := id pm
        have fin : ∀ I', PicM A I' → FrM I I' → Zp G 202 152 [some (.ref 93), some (.int (nI c)), some (.int (nI (((slF (kS (aK A)) (kP (aK A)) (kU (aK A)) (2 ^ lc (kP (aK A)))).map bc2).getD 1000000))), some (.int (slV (slF (kS (aK A)) (kP (aK A)) (kU (aK A)) (2 ^ lc (kP (aK A)))))), some (.int (nI (2 ^ lc (kP (aK A))))), none] [] I' L Q := by
          intro I3 pm3 f3
          rw [e1', e2']
          refine Zp.iload_n k_202_152 rfl ?_
          refine Zp.bipush (-4) k_202_153 (by decide) ?_
          refine Zp.icmp_neZ (-4) (-4) k_202_155 (by decide) (by decide) (fun c_155 => absurd c_155 (by omega)) (fun c_155 => ?_)
          refine Zp.bipush (-4) k_202_158 (by decide) ?_
          refine Zp.goto k_202_160 ?_
          refine Zp.iret _ k_202_172 vr_202 rfl ?_
          exact hq I3 L pm3 f3
        
        refine Zm.go [some (.ref _), some (.int _), none, none, none, none] vl_202 rfl ?_
        refine Zp.iload_n k_202_0 rfl ?_
        refine Zp.calls1I vs_158 k_202_1 (Nat.le_of_ble_eq_true rfl) (Nat.le_of_ble_eq_true rfl) (c_isPartM ⟨_, rfl, ?_⟩)
        refine Zp.if_neB k_202_4 (fun c_4 => ?_) (fun c_4 => absurd c_4 (by omega))
        refine Zp.ldcw (nI 1000000) k_202_9 (by decide) ?_
        refine Zp.istore_n [some (.ref _), some (.int _), some (.int _), none, none, none] k_202_12 (Nat.lt_of_lt_of_eq (zlt rfl : 2 < 6) vl_202.symm) rfl ?_
        refine Zp.bipush (-4) k_202_13 (by decide) ?_
        refine Zp.istore_n [some (.ref _), some (.int _), some (.int _), some (.int _), none, none] k_202_15 (Nat.lt_of_lt_of_eq (zlt rfl : 3 < 6) vl_202.symm) rfl ?_
        refine Zp.iconst (nI 0) k_202_16 (by decide) ?_
        refine Zp.istore [some (.ref _), some (.int _), some (.int _), some (.int _), some (.int _), none] k_202_17 (Nat.lt_of_lt_of_eq (zlt rfl : 4 < 6) vl_202.symm) rfl ?_
        exact c_slipsLoop ho fin (2 ^ lc (kP (aK A))) 0 I (by omega) pm (FrM.rf I)
    · refine ⟨.int (nI (if c = 0 then bc2 d else d)), A, ho, fun I L Q pc hq => ?_, fun I L Q pm hq => ?_⟩
      · obtain ⟨⟨hp, lp, pp, ep⟩, hk, hi0, hi1, ht, hb, hf, hr, hh⟩ := id pc
        refine Zm.go [some (.ref _), some (.int _), none] vl_103 rfl ?_
        refine Zp.iload_n k_103_0 rfl ?_
        refine Zp.iconst (nI 0) k_103_1 (by decide) ?_
        refine Zp.iconst (nI 1) k_103_2 (by decide) ?_
        refine Zp.calls3I vs_129 k_103_3 (Nat.le_of_ble_eq_true rfl) (Nat.le_of_ble_eq_true rfl) (c_isWithin (nI_toInt (by omega)) (nI_toInt (by omega)) (nI_toInt (by omega)) ⟨_, rfl, ?_⟩)
        refine Zp.if_neB k_103_6 (fun c_6 => ?_) (fun c_6 => absurd c_6 (by omega))
        refine Zp.aload_n k_103_11 rfl ?_
        refine Zp.callv0I v_104 k_103_12 m_0 (Nat.le_of_ble_eq_true rfl) (Nat.le_of_ble_eq_true rfl) (c_fewest pc ho (fun I2 f2 => ⟨_, rfl, ?_⟩))
        rw [e1']
        refine Zp.istore_n [some (.ref _), some (.int _), some (.int _)] k_103_15 (Nat.lt_of_lt_of_eq (zlt rfl : 2 < 3) vl_103.symm) rfl ?_
        refine Zp.iload_n k_103_16 rfl ?_
        refine Zp.if_geN k_103_17 (by omega) ?_
        refine Zp.iload_n k_103_23 rfl ?_
        refine Zp.if_neN k_103_24 (by omega) (fun c_24 => ?_) (fun c_24 => ?_)
        · refine Zp.iload_n k_103_34 rfl ?_
          refine Zp.iret _ k_103_35 vr_103 rfl ?_
          have hq1 := hq I2 (pc.try_ f2) (fun q h => f2 q (by omega))
          first | (rw [if_pos c_24] at hq1; exact hq1) | (rw [if_neg c_24] at hq1; exact hq1)
        · refine Zp.iload_n k_103_27 rfl ?_
          refine Zp.calls1I vs_230 k_103_28 (Nat.le_of_ble_eq_true rfl) (Nat.le_of_ble_eq_true rfl) (c_bitCount hd ⟨_, rfl, ?_⟩)
          refine Zp.goto k_103_31 ?_
          refine Zp.iret _ k_103_35 vr_103 rfl ?_
          have hq1 := hq I2 (pc.try_ f2) (fun q h => f2 q (by omega))
          first | (rw [if_pos c_24] at hq1; exact hq1) | (rw [if_neg c_24] at hq1; exact hq1)
      · obtain ⟨m3, ⟨mp, xp⟩, m4, ms1, ms2, ms3, mk0, mk1, mi0, mi1, mt, mb, mf, mr, mh⟩ := id pm
        have fin : ∀ I', PicM A I' → FrM I I' → Zp G 202 152 [some (.ref 93), some (.int (nI c)), some (.int (nI (((slF (kS (aK A)) (kP (aK A)) (kU (aK A)) (2 ^ lc (kP (aK A)))).map bc2).getD 1000000))), some (.int (slV (slF (kS (aK A)) (kP (aK A)) (kU (aK A)) (2 ^ lc (kP (aK A)))))), some (.int (nI (2 ^ lc (kP (aK A))))), none] [] I' L Q := by
          intro I3 pm3 f3
          rw [e1', e2']
          have hq1 := hq I3 L pm3 f3
          refine Zp.iload_n k_202_152 rfl ?_
          refine Zp.bipush (-4) k_202_153 (by decide) ?_
          refine Zp.icmp_neZ _ (-4) k_202_155 (nI_toInt (by omega)) (by decide) (fun c_155 => ?_) (fun c_155 => absurd c_155 (by omega))
          refine Zp.iload_n k_202_163 rfl ?_
          refine Zp.if_neN k_202_164 (by omega) (fun c_164 => ?_) (fun c_164 => ?_)
          · refine Zp.iload_n k_202_171 rfl ?_
            refine Zp.iret _ k_202_172 vr_202 rfl ?_
            first | (rw [if_pos c_164] at hq1; exact hq1) | (rw [if_neg c_164] at hq1; exact hq1)
          · refine Zp.iload_n k_202_167 rfl ?_
            refine Zp.goto k_202_168 ?_
            refine Zp.iret _ k_202_172 vr_202 rfl ?_
            first | (rw [if_pos c_164] at hq1; exact hq1) | (rw [if_neg c_164] at hq1; exact hq1)
        
        refine Zm.go [some (.ref _), some (.int _), none, none, none, none] vl_202 rfl ?_
        refine Zp.iload_n k_202_0 rfl ?_
        refine Zp.calls1I vs_158 k_202_1 (Nat.le_of_ble_eq_true rfl) (Nat.le_of_ble_eq_true rfl) (c_isPartM ⟨_, rfl, ?_⟩)
        refine Zp.if_neB k_202_4 (fun c_4 => ?_) (fun c_4 => absurd c_4 (by omega))
        refine Zp.ldcw (nI 1000000) k_202_9 (by decide) ?_
        refine Zp.istore_n [some (.ref _), some (.int _), some (.int _), none, none, none] k_202_12 (Nat.lt_of_lt_of_eq (zlt rfl : 2 < 6) vl_202.symm) rfl ?_
        refine Zp.bipush (-4) k_202_13 (by decide) ?_
        refine Zp.istore_n [some (.ref _), some (.int _), some (.int _), some (.int _), none, none] k_202_15 (Nat.lt_of_lt_of_eq (zlt rfl : 3 < 6) vl_202.symm) rfl ?_
        refine Zp.iconst (nI 0) k_202_16 (by decide) ?_
        refine Zp.istore [some (.ref _), some (.int _), some (.int _), some (.int _), some (.int _), none] k_202_17 (Nat.lt_of_lt_of_eq (zlt rfl : 4 < 6) vl_202.symm) rfl ?_
        exact c_slipsLoop ho fin (2 ^ lc (kP (aK A))) 0 I (by omega) pm (FrM.rf I)
  · refine ⟨.int (-1), A, ho, fun I L Q pc hq => ?_, fun I L Q pm hq => ?_⟩
    · obtain ⟨⟨hp, lp, pp, ep⟩, hk, hi0, hi1, ht, hb, hf, hr, hh⟩ := id pc
      refine Zm.go [some (.ref _), some (.int _), none] vl_103 rfl ?_
      refine Zp.iload_n k_103_0 rfl ?_
      refine Zp.iconst (nI 0) k_103_1 (by decide) ?_
      refine Zp.iconst (nI 1) k_103_2 (by decide) ?_
      refine Zp.calls3I vs_129 k_103_3 (Nat.le_of_ble_eq_true rfl) (Nat.le_of_ble_eq_true rfl) (c_isWithin rfl (nI_toInt (by omega)) (nI_toInt (by omega)) ⟨_, rfl, ?_⟩)
      refine Zp.if_neB k_103_6 (fun c_6 => absurd c_6 (by omega)) (fun c_6 => ?_)
      refine Zp.iconst (-1) k_103_9 (by decide) ?_
      refine Zp.iret _ k_103_10 vr_103 rfl ?_
      exact hq I pc (FrC.rf I)
    · obtain ⟨m3, ⟨mp, xp⟩, m4, ms1, ms2, ms3, mk0, mk1, mi0, mi1, mt, mb, mf, mr, mh⟩ := id pm
      refine Zm.go [some (.ref _), some (.int _), none, none, none, none] vl_202 rfl ?_
      refine Zp.iload_n k_202_0 rfl ?_
      refine Zp.calls1I vs_158 k_202_1 (Nat.le_of_ble_eq_true rfl) (Nat.le_of_ble_eq_true rfl) (c_isPartM ⟨_, rfl, ?_⟩)
      refine Zp.if_neB k_202_4 (fun c_4 => absurd c_4 (by omega)) (fun c_4 => ?_)
      refine Zp.iconst (-1) k_202_7 (by decide) ?_
      refine Zp.iret _ k_202_8 vr_202 rfl ?_
      first | exact hq I L pm (FrM.rf I) | exact hq I2 L pm2 (fun q hq => s2 q (by omega))
end SLIPS1
