/-! LOVE: the reference, and both -/
theorem puL_s (L : zJ) (q k : Nat) (x : Int64) : va_up L q (va_up (L q) k x) q k = x := by rw [va_up_s, va_up_s]
theorem puL_k (L : zJ) (q k : Nat) (x : Int64) {j : Nat} (h : j ≠ k) : va_up L q (va_up (L q) k x) q j = L q j := by rw [va_up_s, va_up_n _ _ h]
theorem Zp.getLV {G : zG} {mid pc pc' : Nat} {lo : List (Option Value)} {st : List Value} {I : zI} {L : zJ} {Q : zP} {idx ci kk h0 q n : Nat} {v : Int64} (h : zIn mid pc pc' (.getfield idx) 3 [ci, kk, h0]) (hf : zfk ci kk = 1) (hc : ci < 12) (hM : M0[q]? = some (ci, n)) (hv : L q kk = v) (k : Zp G mid pc' lo (.long v :: st) I L Q) : Zp G mid pc lo (.ref q :: st) I L Q := Zp.getL h hf hc hM (by rw [hv]; exact k)
theorem stp_le (S : zSo) (a b : Nat) : ∀ i, stp S a b i ≤ i
  | 0 => Nat.le_refl 0
  | i + 1 => by
    have := stp_le S a b i
    unfold stp
    split <;> omega
theorem lvT_le {w : zSo → Nat} (hw : ∀ T, So T → w T ≤ 999) {S : zSo} (ho : So S) (a b v : Nat) (hv : v ≤ 10) {k : Nat} (hk : k ≤ 12) : lvS w S a b v k ≤ 999 * 10 ^ k := by
  have h1 := lvC_le hw ho a b v hv k
  have h2 : (10 - v) ^ k * w (aG S a b k) ≤ (10 - v) ^ k * 999 := Nat.mul_le_mul_left _ (hw _ (aG_o ho a b k))
  unfold lvS
  omega
section CALL5
variable {G : zG} {mid pc pc' : Nat} {lo : List (Option Value)} {I : zI} {L : zJ} {Q : zP}
theorem Zp.callv5L {idx t k1 k2 k3 k5 k6 q cn nn m : Nat} {v1 v2 v3 v4 v5 : Value} {rest : List Value} (hv : zCv t cn m = true) (h : zIn mid pc pc' (.invokevirtual idx) 3 [t, k1, k2, k3, 5, k5, k6]) (hM : M0[q]? = some (cn, nn)) (hr : rest.length ≤ 4) (hlen : (zargs (.ref q :: [v1, v2, v3, v4, v5])).length ≤ m)
    (hk : Zm G t (.ref q :: [v1, v2, v3, v4, v5]) I L (fun r I' L' => ∃ v, r = some (.long v) ∧ Zp G mid pc' lo (.long v :: rest) I' L' Q)) : Zp G mid pc lo (v5 :: v4 :: v3 :: v2 :: v1 :: .ref q :: rest) I L Q :=
  Zp.callv (As := [v1, v2, v3, v4, v5]) hv h hM rfl hr hlen (Zm.mono (fun r I' L' q => by obtain ⟨v, rfl, k⟩ := q; exact k) hk)
end CALL5
section LOVE4
variable {G : zG} {A : zQs} {I : zI} {L : zJ} {Q : zP}
theorem c_addsM {T : zSo} {w sd se : Nat} (mq : Mp (I 95) T) (ho : So T) (h29 : L 93 29 = lN sd) (h30 : L 93 30 = lN se) (hq : ∀ L', L' 93 29 = lN (sd + w * wD T) → L' 93 30 = lN (se + w * wN T) → L' 93 28 = L 93 28 → Q none I L') : Zm G 215 [.ref 93, .long (lN w)] I L Q := by
  have o2 := ho.2.1
  have o4 := ho.2.2.2.1
  refine Zm.go [some (.ref _), some (.long _), none] vl_215 rfl ?_
  refine Zp.aload_n k_215_0 rfl ?_
  refine Zp.dup k_215_1 rfl ?_
  refine Zp.getLV k_215_2 rfl (zlt rfl) m_93 h29 ?_
  refine Zp.lload_n k_215_5 rfl ?_
  refine Zp.aload_n k_215_6 rfl ?_
  refine Zp.getR k_215_7 rfl (zlt rfl) m_93 r_93_1 ?_
  refine Zp.bipush (nI 33) k_215_10 (by decide) ?_
  refine Zp.iald _ k_215_12 m_95 rfl (by omega) (zlt rfl) mq.2.2.2.2.2.1 ?_
  refine Zp.i2l k_215_13 ?_
  refine Zp.lmul k_215_14 ?_
  refine Zp.ladd k_215_15 ?_
  refine Zp.putL k_215_16 rfl (zlt rfl) m_93 ?_
  refine Zp.aload_n k_215_19 rfl ?_
  refine Zp.dup k_215_20 rfl ?_
  refine Zp.getLV k_215_21 rfl (zlt rfl) m_93 ((puL_k _ _ _ _ (by decide)).trans h30) ?_
  refine Zp.aload_n k_215_24 rfl ?_
  refine Zp.getR k_215_25 rfl (zlt rfl) m_93 r_93_1 ?_
  refine Zp.bipush (nI 33) k_215_28 (by decide) ?_
  refine Zp.iald _ k_215_30 m_95 rfl (by omega) (zlt rfl) mq.2.2.2.2.2.1 ?_
  refine Zp.aload_n k_215_31 rfl ?_
  refine Zp.getR k_215_32 rfl (zlt rfl) m_93 r_93_1 ?_
  refine Zp.bipush (nI 30) k_215_35 (by decide) ?_
  refine Zp.iald _ k_215_37 m_95 rfl (by omega) (zlt rfl) mq.2.2.1 ?_
  refine Zp.icmp_ltN k_215_38 (by omega) (by omega) (fun c_38 => ?_) (fun c_38 => ?_)
  · refine Zp.lconst (lN 0) k_215_45 (by decide) ?_
    refine Zp.ladd k_215_46 ?_
    refine Zp.putL k_215_47 rfl (zlt rfl) m_93 ?_
    refine Zp.vret k_215_50 vr_215 ?_
    refine hq _ ?_ ?_ ?_
    · rw [puL_k _ _ _ _ (by decide), puL_s, nL_i2l (by omega), nL_mul, nL_add]; rfl
    · rw [puL_s, nL_add]; first | (rw [show wN T = 1 from if_pos (by omega), Nat.mul_one]) | (rw [show wN T = 0 from if_neg (by omega), Nat.mul_zero])
    · rw [puL_k _ _ _ _ (by decide), puL_k _ _ _ _ (by decide)]
  · refine Zp.lload_n k_215_41 rfl ?_
    refine Zp.goto k_215_42 ?_
    refine Zp.ladd k_215_46 ?_
    refine Zp.putL k_215_47 rfl (zlt rfl) m_93 ?_
    refine Zp.vret k_215_50 vr_215 ?_
    refine hq _ ?_ ?_ ?_
    · rw [puL_k _ _ _ _ (by decide), puL_s, nL_i2l (by omega), nL_mul, nL_add]; rfl
    · rw [puL_s, nL_add]; first | (rw [show wN T = 1 from if_pos (by omega), Nat.mul_one]) | (rw [show wN T = 0 from if_neg (by omega), Nat.mul_zero])
    · rw [puL_k _ _ _ _ (by decide), puL_k _ _ _ _ (by decide)]
theorem c_findLoveM {v a b : Nat} (pm : PicM A I) (ho : Ao A) (hv : v ≤ 10) (ha : a < sn (kS (aK A))) (hb0 : b < sn (kS (aK A)))
    (hq : ∀ I' L' t, PicM A I' → FrM I I' → 0 < t → t * 10 ^ stp (kS (aK A)) a b 12 ≤ 10 ^ 12 → L' 93 28 = lN (10 ^ stp (kS (aK A)) a b 12 * t) → L' 93 29 = lN (lvS wD (kS (aK A)) a b v (stp (kS (aK A)) a b 12) * t) → L' 93 30 = lN (lvS wN (kS (aK A)) a b v (stp (kS (aK A)) a b 12) * t) → Q none I' L') : Zm G 216 [.ref 93, .int (nI v), .int (nI a), .int (nI b)] I L Q := by
  obtain ⟨⟨so, sz, sst, lo, po, eo⟩, ok0, ok1, oi0, oi1, ot, ob, of_, or_, oh⟩ := id ho
  obtain ⟨o1, o2, o3, o4, o5, o6, o7⟩ := id so
  obtain ⟨p1, p2, p3⟩ := id lo
  obtain ⟨u1, u2⟩ := id po
  obtain ⟨e1, e2⟩ := id eo
  have main : ∀ left (I1 : zI), left ≤ 12 → (sset (kS (aK A)) = 0 → left + sstep (kS (aK A)) = snoon (kS (aK A))) → (¬ sset (kS (aK A)) = 0 → left = 0) → PicM A I1 → FrM I I1 → Mp (I1 95) (kS (aK A)) → ∀ L1, Zp G 216 34 [some (.ref 93), some (.int (nI v)), some (.int (nI a)), some (.int (nI b)), none, none, none, none, none, none] [.int (nI left)] I1 L1 Q := by
    intro left I1 hl hl0 hl1 pm1 f1 mq1 L1
    have h12 : ∀ k, k ≤ left → 10 ^ k ≤ 10 ^ 12 := fun k hk => Nat.pow_le_pow_right (by decide) (by omega)
    have lc9 : ∀ (v1 v2 v3 v4 v5 v6 v8 : Value) (w : Value) (j : Nat) (u : Value), ([some v1, some v2, some v3, some v4, some v5, some v6, none, some v8, none, none] : List (Option Value))[j]? = some (some u) → ([some v1, some v2, some v3, some v4, some v5, some v6, none, some v8, none, some w] : List (Option Value))[j]? = some (some u) := by
      intro v1 v2 v3 v4 v5 v6 v8 w j u hj
      match j, hj with
      | 0, hj => exact hj
      | 1, hj => exact hj
      | 2, hj => exact hj
      | 3, hj => exact hj
      | 4, hj => exact hj
      | 5, hj => exact hj
      | 6, hj => exact absurd hj (by simp)
      | 7, hj => exact hj
      | 8, hj => exact absurd hj (by simp)
      | 9, hj => exact absurd hj (by simp)
      | _ + 10, hj => exact absurd hj (by simp)
    have fin : ∀ i (I2 : zI) (L2 : zJ) (u9 : Value), i ≤ left → stp (kS (aK A)) a b 12 = i → PicM A I2 → FrM I I2 → Mp (I2 95) (aG (kS (aK A)) a b i) → L2 93 28 = lN (10 ^ left) → L2 93 29 = lN (lvM wD (kS (aK A)) a b v left i) → L2 93 30 = lN (lvM wN (kS (aK A)) a b v left i) → Zp G 216 151 [some (.ref 93), some (.int (nI v)), some (.int (nI a)), some (.int (nI b)), some (.int (nI left)), some (.long (lN ((10 - v) ^ i))), none, some (.long (lN (10 ^ (left - i)))), none, some (.int (nI i))] [] I2 L2 Q := by
      intro i I2 L2 u9 hi he pm2 f2 mq2 h28 h29 h30
      have ho1 := aG_o so a b i
      refine Zp.aload_n k_216_151 rfl ?_
      refine Zp.lload k_216_152 rfl ?_
      refine Zp.lload k_216_154 rfl ?_
      refine Zp.lmul k_216_156 ?_
      rw [nL_mul]
      refine Zp.callv1V v_215 k_216_157 m_93 (Nat.le_of_ble_eq_true rfl) (Nat.le_of_ble_eq_true rfl) (c_addsM mq2 ho1 h29 h30 (fun L3 g1 g2 g3 => ⟨rfl, ?_⟩))
      refine Zp.vret k_216_160 vr_216 ?_
      have hp : 10 ^ left = 10 ^ i * 10 ^ (left - i) := by rw [← Nat.pow_add, show i + (left - i) = left by omega]
      have hs : ∀ w : zSo → Nat, lvM w (kS (aK A)) a b v left i + (10 - v) ^ i * 10 ^ (left - i) * w (aG (kS (aK A)) a b i) = lvS w (kS (aK A)) a b v i * 10 ^ (left - i) := fun w => by
        rw [lvM_eq _ _ _ _ _ _ _ hi]
        unfold lvS
        rw [Nat.add_mul, Nat.mul_assoc, Nat.mul_assoc, Nat.mul_comm (10 ^ (left - i)) (w _)]
      have hq1 := hq I2 L3 (10 ^ (left - i)) pm2 f2 (Nat.pow_pos (by decide))
      rw [he] at hq1
      exact hq1 (by rw [Nat.mul_comm, ← hp]; exact h12 left (Nat.le_refl _)) (by rw [g3, h28, hp]) (by rw [g1, hs]) (by rw [g2, hs])
    have loop2 : ∀ k i (I2 : zI) (L2 : zJ), i + k = left → stp (kS (aK A)) a b i = i → sstep (aG (kS (aK A)) a b i) = sstep (kS (aK A)) + i → PicM A I2 → FrM I I2 → Mp (I2 95) (aG (kS (aK A)) a b i) → L2 93 28 = lN (10 ^ left) → L2 93 29 = lN (lvM wD (kS (aK A)) a b v left i) → L2 93 30 = lN (lvM wN (kS (aK A)) a b v left i) → Zp G 216 91 [some (.ref 93), some (.int (nI v)), some (.int (nI a)), some (.int (nI b)), some (.int (nI left)), some (.long (lN ((10 - v) ^ i))), none, some (.long (lN (10 ^ (left - i)))), none, some (.int (nI i))] [] I2 L2 Q := by
      intro k
      induction k with
      | zero =>
        intro i I2 L2 hi he hst pm2 f2 mq2 h28 h29 h30
        have e : i = left := by omega
        subst e
        obtain ⟨q1, q2, q3, q4, q5⟩ := aG_n (kS (aK A)) a b i
        have nc : ¬ canS (aG (kS (aK A)) a b i) := fun z => by
          by_cases w : sset (kS (aK A)) = 0
          · have := hl0 w; have := z.2; omega
          · have := hl1 w; subst this; exact w z.1
        have e12 : stp (kS (aK A)) a b 12 = i := by have := stp_stop he nc (12 - i); rw [show i + (12 - i) = 12 by omega] at this; exact this
        refine Zp.iload k_216_91 rfl ?_
        refine Zp.iload k_216_93 rfl ?_
        refine Zp.icmp_geN k_216_95 (by omega) (by omega) (fun c_95 => ?_) (fun c_95 => absurd c_95 (by omega))
        exact fin i I2 L2 (.int 0) (Nat.le_refl _) e12 pm2 f2 mq2 h28 h29 h30
      | succ k ih =>
        intro i I2 L2 hi he hst pm2 f2 mq2 h28 h29 h30
        obtain ⟨q1, q2, q3, q4, q5⟩ := aG_n (kS (aK A)) a b i
        have ho1 := aG_o so a b i
        have ho5 := ho1.2.2.2.2.1
        have s0 : sset (kS (aK A)) = 0 := by
          by_cases w : sset (kS (aK A)) = 0
          · exact w
          · have := hl1 w; omega
        have hl2 := hl0 s0
        have r1 : 10 ^ (left - i) = 10 ^ (left - (i + 1)) * 10 := by rw [show left - i = left - (i + 1) + 1 by omega, Nat.pow_succ]
        have r2 := h12 (left - i) (by omega)
        have e1' : lN (10 ^ (left - i)) / lN 10 = lN (10 ^ (left - (i + 1))) := by rw [nL_div (by omega) (by decide) (by decide), r1, Nat.mul_div_cancel _ (by decide)]
        have e2' : lN ((10 - v) ^ i) * (nI v).toInt64 * lN (10 ^ (left - (i + 1))) = lN ((10 - v) ^ i * v * 10 ^ (left - (i + 1))) := by rw [nL_i2l (by omega), nL_mul, nL_mul]
        have e3' : lN ((10 - v) ^ i) * (nI 10 - nI v).toInt64 = lN ((10 - v) ^ (i + 1)) := by rw [lN10 hv, nL_mul]; rfl
        refine Zp.iload k_216_91 rfl ?_
        refine Zp.iload k_216_93 rfl ?_
        refine Zp.icmp_geN k_216_95 (by omega) (by omega) (fun c_95 => absurd c_95 (by omega)) (fun c_95 => ?_)
        refine Zp.aload_n k_216_98 rfl ?_
        refine Zp.getR k_216_99 rfl (zlt rfl) m_93 r_93_1 ?_
        refine Zp.bipush (nI 34) k_216_102 (by decide) ?_
        refine Zp.iald _ k_216_104 m_95 rfl (by omega) (zlt rfl) mq2.2.2.2.2.2.2 ?_
        refine Zp.if_neN k_216_105 (by omega) (fun c_105 => ?_) (fun c_105 => ?_)
        · exact fin i I2 L2 (.int 0) (by omega) (by have := stp_stop he (fun z => absurd z.1 c_105) (12 - i); rw [show i + (12 - i) = 12 by omega] at this; exact this) pm2 f2 mq2 h28 h29 h30
        · refine Zp.lload k_216_108 rfl ?_
          refine Zp.ldc2 (lN 10) k_216_110 (by decide) ?_
          refine Zp.ldiv k_216_113 (nL_ne (b := 10) (by decide) (by decide)) ?_
          rw [e1']
          refine Zp.lstore [some (.ref _), some (.int _), some (.int _), some (.int _), some (.int _), some (.long _), none, some (.long _), none, some (.int _)] k_216_114 (Nat.lt_of_lt_of_eq (zlt rfl : 7 + 1 < 10) vl_216.symm) rfl ?_
          refine Zp.aload_n k_216_116 rfl ?_
          refine Zp.lload k_216_117 rfl ?_
          refine Zp.iload_n k_216_119 rfl ?_
          refine Zp.i2l k_216_120 ?_
          refine Zp.lmul k_216_121 ?_
          refine Zp.lload k_216_122 rfl ?_
          refine Zp.lmul k_216_124 ?_
          rw [e2']
          refine Zp.callv1V v_215 k_216_125 m_93 (Nat.le_of_ble_eq_true rfl) (Nat.le_of_ble_eq_true rfl) (c_addsM mq2 ho1 h29 h30 (fun L3 g1 g2 g3 => ⟨rfl, ?_⟩))
          refine Zp.lload k_216_128 rfl ?_
          refine Zp.bipush (nI 10) k_216_130 (by decide) ?_
          refine Zp.iload_n k_216_132 rfl ?_
          refine Zp.isub k_216_133 ?_
          refine Zp.i2l k_216_134 ?_
          refine Zp.lmul k_216_135 ?_
          rw [e3']
          refine Zp.lstore [some (.ref _), some (.int _), some (.int _), some (.int _), some (.int _), some (.long _), none, some (.long _), none, some (.int _)] k_216_136 (Nat.lt_of_lt_of_eq (zlt rfl : 5 + 1 < 10) vl_216.symm) rfl ?_
          refine Zp.aload_n k_216_138 rfl ?_
          refine Zp.iload_n k_216_139 rfl ?_
          refine Zp.iload_n k_216_140 rfl ?_
          refine Zp.callv2I v_169 k_216_141 m_93 (Nat.le_of_ble_eq_true rfl) (Nat.le_of_ble_eq_true rfl) (c_stirsM mq2 ho1 (by omega) (by omega) (by omega) (fun I3 mq3 f3 => ⟨_, rfl, ?_⟩))
          refine Zp.pop k_216_144 rfl ?_
          refine Zp.iinc (nI (_ + 1)) [some (.ref _), some (.int _), some (.int _), some (.int _), some (.int _), some (.long _), none, some (.long _), none, some (.int _)] k_216_145 rfl (nI_1 _) (Nat.lt_of_lt_of_eq (zlt rfl : 9 < 10) vl_216.symm) rfl ?_
          refine Zp.goto k_216_148 ?_
          have cs : canS (aG (kS (aK A)) a b i) := ⟨c_105, by omega⟩
          rw [if_pos cs] at mq3
          exact ih (i + 1) I3 L3 (by omega) (stp_go he cs) (by rw [aG_go cs, stS_step]; omega) (pm2.at f3.1) (fun q h => (f3.1 q (by omega)).trans (f2 q h)) (by rw [aG_go cs]; exact mq3) (g3.trans h28) g1 g2
    have loop1 : ∀ k i (L2 : zJ), i + k = left → L2 93 28 = lN (10 ^ i) → L2 93 29 = lN 0 → L2 93 30 = lN 0 → Zp G 216 57 [some (.ref 93), some (.int (nI v)), some (.int (nI a)), some (.int (nI b)), some (.int (nI left)), some (.long (lN 1)), none, some (.int (nI i)), none, none] [] I1 L2 Q := by
      intro k
      induction k with
      | zero =>
        intro i L2 hi h28 h29 h30
        have e : i = left := by omega
        subst e
        refine Zp.iload k_216_57 rfl ?_
        refine Zp.iload k_216_59 rfl ?_
        refine Zp.icmp_geN k_216_61 (by omega) (by omega) (fun c_61 => ?_) (fun c_61 => absurd c_61 (by omega))
        refine Zp.aload_n k_216_82 rfl ?_
        refine Zp.getLV k_216_83 rfl (zlt rfl) m_93 h28 ?_
        refine Zp.lstore [some (.ref _), some (.int _), some (.int _), some (.int _), some (.int _), some (.long _), none, some (.long _), none, none] k_216_86 (Nat.lt_of_lt_of_eq (zlt rfl : 7 + 1 < 10) vl_216.symm) rfl ?_
        refine Zp.iconst (nI 0) k_216_88 (by decide) ?_
        refine Zp.istore [some (.ref _), some (.int _), some (.int _), some (.int _), some (.int _), some (.long _), none, some (.long _), none, some (.int _)] k_216_89 (Nat.lt_of_lt_of_eq (zlt rfl : 9 < 10) vl_216.symm) rfl ?_
        exact loop2 i 0 I1 L2 (by omega) rfl rfl pm1 f1 mq1 h28 h29 h30
      | succ k ih =>
        intro i L2 hi h28 h29 h30
        refine Zp.iload k_216_57 rfl ?_
        refine Zp.iload k_216_59 rfl ?_
        refine Zp.icmp_geN k_216_61 (by omega) (by omega) (fun c_61 => absurd c_61 (by omega)) (fun c_61 => ?_)
        refine Zp.aload_n k_216_64 rfl ?_
        refine Zp.dup k_216_65 rfl ?_
        refine Zp.getLV k_216_66 rfl (zlt rfl) m_93 h28 ?_
        refine Zp.ldc2 (lN 10) k_216_69 (by decide) ?_
        refine Zp.lmul k_216_72 ?_
        refine Zp.putL k_216_73 rfl (zlt rfl) m_93 ?_
        refine Zp.iinc (nI (_ + 1)) [some (.ref _), some (.int _), some (.int _), some (.int _), some (.int _), some (.long _), none, some (.int _), none, none] k_216_76 rfl (nI_1 _) (Nat.lt_of_lt_of_eq (zlt rfl : 7 < 10) vl_216.symm) rfl ?_
        refine Zp.goto k_216_79 ?_
        exact ih (i + 1) _ (by omega) (by rw [puL_s, nL_mul]; rfl) ((puL_k _ _ _ _ (by decide)).trans h29) ((puL_k _ _ _ _ (by decide)).trans h30)
    refine Zp.istore [some (.ref _), some (.int _), some (.int _), some (.int _), some (.int _), none, none, none, none, none] k_216_34 (Nat.lt_of_lt_of_eq (zlt rfl : 4 < 10) vl_216.symm) rfl ?_
    refine Zp.lconst (lN 1) k_216_36 (by decide) ?_
    refine Zp.lstore [some (.ref _), some (.int _), some (.int _), some (.int _), some (.int _), some (.long _), none, none, none, none] k_216_37 (Nat.lt_of_lt_of_eq (zlt rfl : 5 + 1 < 10) vl_216.symm) rfl ?_
    refine Zp.aload_n k_216_39 rfl ?_
    refine Zp.lconst (lN 1) k_216_40 (by decide) ?_
    refine Zp.putL k_216_41 rfl (zlt rfl) m_93 ?_
    refine Zp.aload_n k_216_44 rfl ?_
    refine Zp.lconst (lN 0) k_216_45 (by decide) ?_
    refine Zp.putL k_216_46 rfl (zlt rfl) m_93 ?_
    refine Zp.aload_n k_216_49 rfl ?_
    refine Zp.lconst (lN 0) k_216_50 (by decide) ?_
    refine Zp.putL k_216_51 rfl (zlt rfl) m_93 ?_
    refine Zp.iconst (nI 0) k_216_54 (by decide) ?_
    refine Zp.istore [some (.ref _), some (.int _), some (.int _), some (.int _), some (.int _), some (.long _), none, some (.int _), none, none] k_216_55 (Nat.lt_of_lt_of_eq (zlt rfl : 7 < 10) vl_216.symm) rfl ?_
    exact loop1 left 0 _ (by omega) ((puL_k _ _ _ _ (by decide)).trans ((puL_k _ _ _ _ (by decide)).trans (puL_s _ _ _ _))) ((puL_k _ _ _ _ (by decide)).trans (puL_s _ _ _ _)) (puL_s _ _ _ _)
  refine Zm.go [some (.ref _), some (.int _), some (.int _), some (.int _), none, none, none, none, none, none] vl_216 rfl ?_
  refine Zp.aload_n k_216_0 rfl ?_
  refine Zp.callv0V v_159 k_216_1 m_93 (Nat.le_of_ble_eq_true rfl) (Nat.le_of_ble_eq_true rfl) (c_goM pm ho (fun I2 pm2 mq xq s2 => ⟨rfl, ?_⟩))
  refine Zp.aload_n k_216_4 rfl ?_
  refine Zp.getR k_216_5 rfl (zlt rfl) m_93 r_93_1 ?_
  refine Zp.bipush (nI 34) k_216_8 (by decide) ?_
  refine Zp.iald _ k_216_10 m_95 rfl (by omega) (zlt rfl) mq.2.2.2.2.2.2 ?_
  refine Zp.iconst (nI 1) k_216_11 (by decide) ?_
  refine Zp.icmp_neN k_216_12 (by omega) (by omega) (fun c_12 => ?_) (fun c_12 => ?_)
  · refine Zp.aload_n k_216_19 rfl ?_
    refine Zp.getR k_216_20 rfl (zlt rfl) m_93 r_93_1 ?_
    refine Zp.bipush (nI 31) k_216_23 (by decide) ?_
    refine Zp.iald _ k_216_25 m_95 rfl (by omega) (zlt rfl) (by first | exact mq.2.2.1 | exact mq.2.2.2.1 | exact mq.2.2.2.2.1 | exact mq.2.2.2.2.2.1 | exact mq.2.2.2.2.2.2 | exact xq.1 | exact xq.2.1 | exact xq.2.2.2.1 | exact xq.2.2.1 _ (by omega) | exact xq.2.2.2.2.2 _ (by omega) | exact xq.2.2.2.2.1 _ (by omega) | exact mq.hh (by omega) (by omega) | exact mq.kk (by omega) | exact mq.2.1 _ (by omega)) ?_
    refine Zp.aload_n k_216_26 rfl ?_
    refine Zp.getR k_216_27 rfl (zlt rfl) m_93 r_93_1 ?_
    refine Zp.bipush (nI 32) k_216_30 (by decide) ?_
    refine Zp.iald _ k_216_32 m_95 rfl (by omega) (zlt rfl) (by first | exact mq.2.2.1 | exact mq.2.2.2.1 | exact mq.2.2.2.2.1 | exact mq.2.2.2.2.2.1 | exact mq.2.2.2.2.2.2 | exact xq.1 | exact xq.2.1 | exact xq.2.2.2.1 | exact xq.2.2.1 _ (by omega) | exact xq.2.2.2.2.2 _ (by omega) | exact xq.2.2.2.2.1 _ (by omega) | exact mq.hh (by omega) (by omega) | exact mq.kk (by omega) | exact mq.2.1 _ (by omega)) ?_
    refine Zp.isubN k_216_33 (by omega) ?_
    first | exact main 0 I2 (by decide) (fun z => by omega) (fun _ => rfl) pm2 (fun q h => s2 q (by omega)) mq L | exact main (snoon (kS (aK A)) - sstep (kS (aK A))) I2 (by omega) (fun _ => by omega) (fun z => by omega) pm2 (fun q h => s2 q (by omega)) mq L
  · refine Zp.iconst (nI 0) k_216_15 (by decide) ?_
    refine Zp.goto k_216_16 ?_
    first | exact main 0 I2 (by decide) (fun z => by omega) (fun _ => rfl) pm2 (fun q h => s2 q (by omega)) mq L | exact main (snoon (kS (aK A)) - sstep (kS (aK A))) I2 (by omega) (fun _ => by omega) (fun z => by omega) pm2 (fun q h => s2 q (by omega)) mq L
end LOVE4
section LOVE5
variable {G : zG} {A : zQs} {x y z u : Int32}
theorem c_asked {I : zI} {L : zJ} {Q : zP} (pc : PicC A I) (ho : Ao A) (hq : Q (some (.int (zbo ((0 ≤ x.toInt ∧ x.toInt ≤ 10) ∧ ((0 ≤ y.toInt ∧ y.toInt < (sn (kS (aK A)) : Int)) ∧ (0 ≤ z.toInt ∧ z.toInt < (sn (kS (aK A)) : Int)) ∧ ¬ y.toInt = z.toInt) ∧ 0 ≤ u.toInt ∧ u.toInt ≤ 1)))) I L) : Zm G 115 [.ref 0, .int x, .int y, .int z, .int u] I L Q := by
  obtain ⟨⟨so, sz, sst, lo, po, eo⟩, ok0, ok1, oi0, oi1, ot, ob, of_, or_, oh⟩ := id ho
  obtain ⟨o1, o2, o3, o4, o5, o6, o7⟩ := id so
  obtain ⟨p1, p2, p3⟩ := id lo
  obtain ⟨u1, u2⟩ := id po
  obtain ⟨e1, e2⟩ := id eo
  obtain ⟨⟨hp, lp, pp, ep⟩, hk, hi0, hi1, ht, hb, hf, hr, hh⟩ := id pc
  refine Zm.go [some (.ref _), some (.int _), some (.int _), some (.int _), some (.int _)] vl_115 rfl ?_
  refine Zp.iload_n k_115_0 rfl ?_
  refine Zp.iconst (nI 0) k_115_1 (by decide) ?_
  refine Zp.bipush (nI 10) k_115_2 (by decide) ?_
  refine Zp.calls3I vs_129 k_115_4 (Nat.le_of_ble_eq_true rfl) (Nat.le_of_ble_eq_true rfl) (c_isWithin rfl (nI_toInt (by omega)) (nI_toInt (by omega)) ⟨_, rfl, ?_⟩)
  refine Zp.if_eqB k_115_7 (fun c_7 => ?_) (fun c_7 => ?_)
  · refine Zp.iconst (nI 0) k_115_39 (by decide) ?_
    refine Zp.iret _ k_115_40 vr_115 rfl ?_
    exact zq0 hq (by omega)
  · refine Zp.aload_n k_115_10 rfl ?_
    refine Zp.getR k_115_11 rfl (zlt rfl) m_0 r_0_0 ?_
    refine Zp.getR k_115_14 rfl (zlt rfl) m_1 r_1_0 ?_
    refine Zp.iload_n k_115_17 rfl ?_
    refine Zp.iload_n k_115_18 rfl ?_
    refine Zp.callv2I v_57 k_115_19 m_2 (Nat.le_of_ble_eq_true rfl) (Nat.le_of_ble_eq_true rfl) (c_areTwo sa_2 hp so ⟨_, rfl, ?_⟩)
    refine Zp.if_eqB k_115_22 (fun c_22 => ?_) (fun c_22 => ?_)
    · refine Zp.iconst (nI 0) k_115_39 (by decide) ?_
      refine Zp.iret _ k_115_40 vr_115 rfl ?_
      exact zq0 hq (by omega)
    · refine Zp.iload k_115_25 rfl ?_
      refine Zp.iconst (nI 0) k_115_27 (by decide) ?_
      refine Zp.iconst (nI 1) k_115_28 (by decide) ?_
      refine Zp.calls3I vs_129 k_115_29 (Nat.le_of_ble_eq_true rfl) (Nat.le_of_ble_eq_true rfl) (c_isWithin rfl (nI_toInt (by omega)) (nI_toInt (by omega)) ⟨_, rfl, ?_⟩)
      refine Zp.if_eqB k_115_32 (fun c_32 => ?_) (fun c_32 => ?_)
      · refine Zp.iconst (nI 0) k_115_39 (by decide) ?_
        refine Zp.iret _ k_115_40 vr_115 rfl ?_
        exact zq0 hq (by omega)
      · refine Zp.iconst (nI 1) k_115_35 (by decide) ?_
        refine Zp.goto k_115_36 ?_
        refine Zp.iret _ k_115_40 vr_115 rfl ?_
        exact zq1 hq (by omega)
theorem B_luck (ho : Ao A) : zBoth G 113 217 [.int x, .int y, .int z, .int u] A := by
  obtain ⟨⟨so, sz, sst, lo, po, eo⟩, ok0, ok1, oi0, oi1, ot, ob, of_, or_, oh⟩ := id ho
  obtain ⟨o1, o2, o3, o4, o5, o6, o7⟩ := id so
  obtain ⟨p1, p2, p3⟩ := id lo
  obtain ⟨u1, u2⟩ := id po
  obtain ⟨e1, e2⟩ := id eo
  by_cases t : (0 ≤ x.toInt ∧ x.toInt ≤ 10) ∧ ((0 ≤ y.toInt ∧ y.toInt < (sn (kS (aK A)) : Int)) ∧ (0 ≤ z.toInt ∧ z.toInt < (sn (kS (aK A)) : Int)) ∧ ¬ y.toInt = z.toInt) ∧ 0 ≤ u.toInt ∧ u.toInt ≤ 1
  · obtain ⟨v, hv, rfl, ev⟩ := zin_nI (n := 11) t.1.1 (by omega)
    obtain ⟨a, ha, rfl, ea⟩ := zin_nI t.2.1.1.1 t.2.1.1.2
    obtain ⟨b, hb0, rfl, eb⟩ := zin_nI t.2.1.2.1.1 t.2.1.2.1.2
    obtain ⟨c, hc, rfl, ec⟩ := zin_nI (n := 2) t.2.2.1 (by omega)
    refine ⟨.long (lN (lvA (lvS wN (kS (aK A)) a b v (stp (kS (aK A)) a b 12)) (stp (kS (aK A)) a b 12) c)), A, ho, fun I L Q pc hq => ?_, fun I L Q pm hq => ?_⟩
    · obtain ⟨⟨hp, lp, pp, ep⟩, hk, hi0, hi1, ht, hb, hf, hr, hh⟩ := id pc
      refine Zm.go [some (.ref _), some (.int _), some (.int _), some (.int _), some (.int _)] vl_113 rfl ?_
      refine Zp.aload_n k_113_0 rfl ?_
      refine Zp.iload_n k_113_1 rfl ?_
      refine Zp.iload_n k_113_2 rfl ?_
      refine Zp.iload_n k_113_3 rfl ?_
      refine Zp.iload k_113_4 rfl ?_
      refine Zp.callv4I v_115 k_113_6 m_0 (Nat.le_of_ble_eq_true rfl) (Nat.le_of_ble_eq_true rfl) (c_asked pc ho ⟨_, rfl, ?_⟩)
      refine Zp.if_eqB k_113_9 (fun c_9 => (by first | exact absurd c_9 t | exact absurd t c_9)) (fun c_9 => ?_)
      refine Zp.aload_n k_113_12 rfl ?_
      refine Zp.iload_n k_113_13 rfl ?_
      refine Zp.iload_n k_113_14 rfl ?_
      refine Zp.iload_n k_113_15 rfl ?_
      refine Zp.iload k_113_16 rfl ?_
      refine Zp.iconst (nI 1) k_113_18 (by decide) ?_
      refine Zp.callv5L v_116 k_113_19 m_0 (Nat.le_of_ble_eq_true rfl) (Nat.le_of_ble_eq_true rfl) (c_byLove pc ho (by omega) ha hb0 hc (by decide) (fun I2 f2 => ⟨_, rfl, ?_⟩))
      refine Zp.goto k_113_22 ?_
      refine Zp.lret k_113_28 vr_113 ?_
      exact hq I2 (pc.try_ f2) (fun q h => f2 q (by omega))
    · obtain ⟨m3, ⟨mp, xp⟩, m4, ms1, ms2, ms3, mk0, mk1, mi0, mi1, mt, mb, mf, mr, mh⟩ := id pm
      refine Zm.go [some (.ref _), some (.int _), some (.int _), some (.int _), some (.int _)] vl_217 rfl ?_
      refine Zp.iload_n k_217_0 rfl ?_
      refine Zp.i2l k_217_1 ?_
      refine Zp.lconst (lN 0) k_217_2 (by decide) ?_
      refine Zp.ldc2 (lN 10) k_217_3 (by decide) ?_
      refine Zp.calls3I vs_131 k_217_6 (Nat.le_of_ble_eq_true rfl) (Nat.le_of_ble_eq_true rfl) (c_in (zi2n (by omega)) (lN_z (by decide)) (lN_z (by decide)) ⟨_, rfl, ?_⟩)
      refine Zp.if_eqB k_217_9 (fun c_9 => absurd c_9 (by omega)) (fun c_9 => ?_)
      refine Zp.aload_n k_217_12 rfl ?_
      refine Zp.iload_n k_217_13 rfl ?_
      refine Zp.iload_n k_217_14 rfl ?_
      refine Zp.callv2I v_156 k_217_15 m_93 (Nat.le_of_ble_eq_true rfl) (Nat.le_of_ble_eq_true rfl) (c_areTwoM m3 (by omega) ⟨_, rfl, ?_⟩)
      refine Zp.if_eqB k_217_18 (fun c_18 => (by first | exact absurd c_18 t.2.1 | exact absurd t.2.1 c_18)) (fun c_18 => ?_)
      refine Zp.iload k_217_21 rfl ?_
      refine Zp.calls1I vs_158 k_217_23 (Nat.le_of_ble_eq_true rfl) (Nat.le_of_ble_eq_true rfl) (c_isPartM ⟨_, rfl, ?_⟩)
      refine Zp.if_neB k_217_26 (fun c_26 => ?_) (fun c_26 => absurd c_26 (by omega))
      refine Zp.aload_n k_217_33 rfl ?_
      refine Zp.iload_n k_217_34 rfl ?_
      refine Zp.iload_n k_217_35 rfl ?_
      refine Zp.iload_n k_217_36 rfl ?_
      refine Zp.callv3V v_216 k_217_37 m_93 (Nat.le_of_ble_eq_true rfl) (Nat.le_of_ble_eq_true rfl) (c_findLoveM pm ho (by omega) ha hb0 (fun I2 L2 t0 pm2 f2 ht0 ht1 h28 h29 h30 => ⟨rfl, ?_⟩))
      refine Zp.aload_n k_217_40 rfl ?_
      refine Zp.getLV k_217_41 rfl (zlt rfl) m_93 h30 ?_
      refine Zp.aload_n k_217_44 rfl ?_
      refine Zp.getLV k_217_45 rfl (zlt rfl) m_93 h28 ?_
      refine Zp.iload k_217_48 rfl ?_
      refine Zp.calls3L vs_214 k_217_50 (Nat.le_of_ble_eq_true rfl) (Nat.le_of_ble_eq_true rfl) (c_told (Nat.lt_of_le_of_lt (Nat.mul_le_mul_right _ (lvT_le wN_le so a b v (by omega) (stp_le _ a b 12))) (by rw [Nat.mul_assoc, Nat.mul_comm (10 ^ _)]; omega)) (by rw [Nat.mul_comm]; omega) ht0 hc ⟨_, rfl, ?_⟩)
      refine Zp.lret k_217_53 vr_217 ?_
      exact hq I2 _ pm2 f2
  · refine ⟨.long (-1), A, ho, fun I L Q pc hq => ?_, fun I L Q pm hq => ?_⟩
    · obtain ⟨⟨hp, lp, pp, ep⟩, hk, hi0, hi1, ht, hb, hf, hr, hh⟩ := id pc
      refine Zm.go [some (.ref _), some (.int _), some (.int _), some (.int _), some (.int _)] vl_113 rfl ?_
      refine Zp.aload_n k_113_0 rfl ?_
      refine Zp.iload_n k_113_1 rfl ?_
      refine Zp.iload_n k_113_2 rfl ?_
      refine Zp.iload_n k_113_3 rfl ?_
      refine Zp.iload k_113_4 rfl ?_
      refine Zp.callv4I v_115 k_113_6 m_0 (Nat.le_of_ble_eq_true rfl) (Nat.le_of_ble_eq_true rfl) (c_asked pc ho ⟨_, rfl, ?_⟩)
      refine Zp.if_eqB k_113_9 (fun c_9 => ?_) (fun c_9 => (by first | exact absurd c_9 t | exact absurd t c_9))
      refine Zp.ldc2 (-1) k_113_25 (by decide) ?_
      refine Zp.lret k_113_28 vr_113 ?_
      exact hq I pc (FrC.rf I)
    · obtain ⟨m3, ⟨mp, xp⟩, m4, ms1, ms2, ms3, mk0, mk1, mi0, mi1, mt, mb, mf, mr, mh⟩ := id pm
      refine Zm.go [some (.ref _), some (.int _), some (.int _), some (.int _), some (.int _)] vl_217 rfl ?_
      refine Zp.iload_n k_217_0 rfl ?_
      refine Zp.i2l k_217_1 ?_
      refine Zp.lconst (lN 0) k_217_2 (by decide) ?_
      refine Zp.ldc2 (lN 10) k_217_3 (by decide) ?_
      refine Zp.calls3I vs_131 k_217_6 (Nat.le_of_ble_eq_true rfl) (Nat.le_of_ble_eq_true rfl) (c_in (zi2l _) (lN_z (by decide)) (lN_z (by decide)) ⟨_, rfl, ?_⟩)
      refine Zp.if_eqB k_217_9 (fun c_9 => ?_) (fun c_9 => ?_)
      · refine Zp.ldc2 (-1) k_217_29 (by decide) ?_
        refine Zp.lret k_217_32 vr_217 ?_
        first | exact hq I L pm (FrM.rf I) | exact hq I2 L pm2 (fun q hq => s2 q (by omega))
      · refine Zp.aload_n k_217_12 rfl ?_
        refine Zp.iload_n k_217_13 rfl ?_
        refine Zp.iload_n k_217_14 rfl ?_
        refine Zp.callv2I v_156 k_217_15 m_93 (Nat.le_of_ble_eq_true rfl) (Nat.le_of_ble_eq_true rfl) (c_areTwoM m3 (by omega) ⟨_, rfl, ?_⟩)
        refine Zp.if_eqB k_217_18 (fun c_18 => ?_) (fun c_18 => ?_)
        · refine Zp.ldc2 (-1) k_217_29 (by decide) ?_
          refine Zp.lret k_217_32 vr_217 ?_
          first | exact hq I L pm (FrM.rf I) | exact hq I2 L pm2 (fun q hq => s2 q (by omega))
        · refine Zp.iload k_217_21 rfl ?_
          refine Zp.calls1I vs_158 k_217_23 (Nat.le_of_ble_eq_true rfl) (Nat.le_of_ble_eq_true rfl) (c_isPartM ⟨_, rfl, ?_⟩)
          refine Zp.if_neB k_217_26 (fun c_26 => ?_) (fun c_26 => ?_)
          · exact absurd ⟨⟨by omega, by omega⟩, c_18, by omega⟩ t
          · refine Zp.ldc2 (-1) k_217_29 (by decide) ?_
            refine Zp.lret k_217_32 vr_217 ?_
            first | exact hq I L pm (FrM.rf I) | exact hq I2 L pm2 (fun q hq => s2 q (by omega))
theorem B_mean (ho : Ao A) : zBoth G 114 218 [.int x, .int y, .int z, .int u] A := by
  obtain ⟨⟨so, sz, sst, lo, po, eo⟩, ok0, ok1, oi0, oi1, ot, ob, of_, or_, oh⟩ := id ho
  obtain ⟨o1, o2, o3, o4, o5, o6, o7⟩ := id so
  obtain ⟨p1, p2, p3⟩ := id lo
  obtain ⟨u1, u2⟩ := id po
  obtain ⟨e1, e2⟩ := id eo
  by_cases t : (0 ≤ x.toInt ∧ x.toInt ≤ 10) ∧ ((0 ≤ y.toInt ∧ y.toInt < (sn (kS (aK A)) : Int)) ∧ (0 ≤ z.toInt ∧ z.toInt < (sn (kS (aK A)) : Int)) ∧ ¬ y.toInt = z.toInt) ∧ 0 ≤ u.toInt ∧ u.toInt ≤ 1
  · obtain ⟨v, hv, rfl, ev⟩ := zin_nI (n := 11) t.1.1 (by omega)
    obtain ⟨a, ha, rfl, ea⟩ := zin_nI t.2.1.1.1 t.2.1.1.2
    obtain ⟨b, hb0, rfl, eb⟩ := zin_nI t.2.1.2.1.1 t.2.1.2.1.2
    obtain ⟨c, hc, rfl, ec⟩ := zin_nI (n := 2) t.2.2.1 (by omega)
    refine ⟨.long (lN (lvA (lvS wD (kS (aK A)) a b v (stp (kS (aK A)) a b 12)) (stp (kS (aK A)) a b 12) c)), A, ho, fun I L Q pc hq => ?_, fun I L Q pm hq => ?_⟩
    · obtain ⟨⟨hp, lp, pp, ep⟩, hk, hi0, hi1, ht, hb, hf, hr, hh⟩ := id pc
      refine Zm.go [some (.ref _), some (.int _), some (.int _), some (.int _), some (.int _)] vl_114 rfl ?_
      refine Zp.aload_n k_114_0 rfl ?_
      refine Zp.iload_n k_114_1 rfl ?_
      refine Zp.iload_n k_114_2 rfl ?_
      refine Zp.iload_n k_114_3 rfl ?_
      refine Zp.iload k_114_4 rfl ?_
      refine Zp.callv4I v_115 k_114_6 m_0 (Nat.le_of_ble_eq_true rfl) (Nat.le_of_ble_eq_true rfl) (c_asked pc ho ⟨_, rfl, ?_⟩)
      refine Zp.if_eqB k_114_9 (fun c_9 => (by first | exact absurd c_9 t | exact absurd t c_9)) (fun c_9 => ?_)
      refine Zp.aload_n k_114_12 rfl ?_
      refine Zp.iload_n k_114_13 rfl ?_
      refine Zp.iload_n k_114_14 rfl ?_
      refine Zp.iload_n k_114_15 rfl ?_
      refine Zp.iload k_114_16 rfl ?_
      refine Zp.iconst (nI 0) k_114_18 (by decide) ?_
      refine Zp.callv5L v_116 k_114_19 m_0 (Nat.le_of_ble_eq_true rfl) (Nat.le_of_ble_eq_true rfl) (c_byLove pc ho (by omega) ha hb0 hc (by decide) (fun I2 f2 => ⟨_, rfl, ?_⟩))
      refine Zp.goto k_114_22 ?_
      refine Zp.lret k_114_28 vr_114 ?_
      exact hq I2 (pc.try_ f2) (fun q h => f2 q (by omega))
    · obtain ⟨m3, ⟨mp, xp⟩, m4, ms1, ms2, ms3, mk0, mk1, mi0, mi1, mt, mb, mf, mr, mh⟩ := id pm
      refine Zm.go [some (.ref _), some (.int _), some (.int _), some (.int _), some (.int _)] vl_218 rfl ?_
      refine Zp.iload_n k_218_0 rfl ?_
      refine Zp.i2l k_218_1 ?_
      refine Zp.lconst (lN 0) k_218_2 (by decide) ?_
      refine Zp.ldc2 (lN 10) k_218_3 (by decide) ?_
      refine Zp.calls3I vs_131 k_218_6 (Nat.le_of_ble_eq_true rfl) (Nat.le_of_ble_eq_true rfl) (c_in (zi2n (by omega)) (lN_z (by decide)) (lN_z (by decide)) ⟨_, rfl, ?_⟩)
      refine Zp.if_eqB k_218_9 (fun c_9 => absurd c_9 (by omega)) (fun c_9 => ?_)
      refine Zp.aload_n k_218_12 rfl ?_
      refine Zp.iload_n k_218_13 rfl ?_
      refine Zp.iload_n k_218_14 rfl ?_
      refine Zp.callv2I v_156 k_218_15 m_93 (Nat.le_of_ble_eq_true rfl) (Nat.le_of_ble_eq_true rfl) (c_areTwoM m3 (by omega) ⟨_, rfl, ?_⟩)
      refine Zp.if_eqB k_218_18 (fun c_18 => (by first | exact absurd c_18 t.2.1 | exact absurd t.2.1 c_18)) (fun c_18 => ?_)
      refine Zp.iload k_218_21 rfl ?_
      refine Zp.calls1I vs_158 k_218_23 (Nat.le_of_ble_eq_true rfl) (Nat.le_of_ble_eq_true rfl) (c_isPartM ⟨_, rfl, ?_⟩)
      refine Zp.if_neB k_218_26 (fun c_26 => ?_) (fun c_26 => absurd c_26 (by omega))
      refine Zp.aload_n k_218_33 rfl ?_
      refine Zp.iload_n k_218_34 rfl ?_
      refine Zp.iload_n k_218_35 rfl ?_
      refine Zp.iload_n k_218_36 rfl ?_
      refine Zp.callv3V v_216 k_218_37 m_93 (Nat.le_of_ble_eq_true rfl) (Nat.le_of_ble_eq_true rfl) (c_findLoveM pm ho (by omega) ha hb0 (fun I2 L2 t0 pm2 f2 ht0 ht1 h28 h29 h30 => ⟨rfl, ?_⟩))
      refine Zp.aload_n k_218_40 rfl ?_
      refine Zp.getLV k_218_41 rfl (zlt rfl) m_93 h29 ?_
      refine Zp.aload_n k_218_44 rfl ?_
      refine Zp.getLV k_218_45 rfl (zlt rfl) m_93 h28 ?_
      refine Zp.iload k_218_48 rfl ?_
      refine Zp.calls3L vs_214 k_218_50 (Nat.le_of_ble_eq_true rfl) (Nat.le_of_ble_eq_true rfl) (c_told (Nat.lt_of_le_of_lt (Nat.mul_le_mul_right _ (lvT_le wD_le so a b v (by omega) (stp_le _ a b 12))) (by rw [Nat.mul_assoc, Nat.mul_comm (10 ^ _)]; omega)) (by rw [Nat.mul_comm]; omega) ht0 hc ⟨_, rfl, ?_⟩)
      refine Zp.lret k_218_53 vr_218 ?_
      exact hq I2 _ pm2 f2
  · refine ⟨.long (-1), A, ho, fun I L Q pc hq => ?_, fun I L Q pm hq => ?_⟩
    · obtain ⟨⟨hp, lp, pp, ep⟩, hk, hi0, hi1, ht, hb, hf, hr, hh⟩ := id pc
      refine Zm.go [some (.ref _), some (.int _), some (.int _), some (.int _), some (.int _)] vl_114 rfl ?_
      refine Zp.aload_n k_114_0 rfl ?_
      refine Zp.iload_n k_114_1 rfl ?_
      refine Zp.iload_n k_114_2 rfl ?_
      refine Zp.iload_n k_114_3 rfl ?_
      refine Zp.iload k_114_4 rfl ?_
      refine Zp.callv4I v_115 k_114_6 m_0 (Nat.le_of_ble_eq_true rfl) (Nat.le_of_ble_eq_true rfl) (c_asked pc ho ⟨_, rfl, ?_⟩)
      refine Zp.if_eqB k_114_9 (fun c_9 => ?_) (fun c_9 => (by first | exact absurd c_9 t | exact absurd t c_9))
      refine Zp.ldc2 (-1) k_114_25 (by decide) ?_
      refine Zp.lret k_114_28 vr_114 ?_
      exact hq I pc (FrC.rf I)
    · obtain ⟨m3, ⟨mp, xp⟩, m4, ms1, ms2, ms3, mk0, mk1, mi0, mi1, mt, mb, mf, mr, mh⟩ := id pm
      refine Zm.go [some (.ref _), some (.int _), some (.int _), some (.int _), some (.int _)] vl_218 rfl ?_
      refine Zp.iload_n k_218_0 rfl ?_
      refine Zp.i2l k_218_1 ?_
      refine Zp.lconst (lN 0) k_218_2 (by decide) ?_
      refine Zp.ldc2 (lN 10) k_218_3 (by decide) ?_
      refine Zp.calls3I vs_131 k_218_6 (Nat.le_of_ble_eq_true rfl) (Nat.le_of_ble_eq_true rfl) (c_in (zi2l _) (lN_z (by decide)) (lN_z (by decide)) ⟨_, rfl, ?_⟩)
      refine Zp.if_eqB k_218_9 (fun c_9 => ?_) (fun c_9 => ?_)
      · refine Zp.ldc2 (-1) k_218_29 (by decide) ?_
        refine Zp.lret k_218_32 vr_218 ?_
        first | exact hq I L pm (FrM.rf I) | exact hq I2 L pm2 (fun q hq => s2 q (by omega))
      · refine Zp.aload_n k_218_12 rfl ?_
        refine Zp.iload_n k_218_13 rfl ?_
        refine Zp.iload_n k_218_14 rfl ?_
        refine Zp.callv2I v_156 k_218_15 m_93 (Nat.le_of_ble_eq_true rfl) (Nat.le_of_ble_eq_true rfl) (c_areTwoM m3 (by omega) ⟨_, rfl, ?_⟩)
        refine Zp.if_eqB k_218_18 (fun c_18 => ?_) (fun c_18 => ?_)
        · refine Zp.ldc2 (-1) k_218_29 (by decide) ?_
          refine Zp.lret k_218_32 vr_218 ?_
          first | exact hq I L pm (FrM.rf I) | exact hq I2 L pm2 (fun q hq => s2 q (by omega))
        · refine Zp.iload k_218_21 rfl ?_
          refine Zp.calls1I vs_158 k_218_23 (Nat.le_of_ble_eq_true rfl) (Nat.le_of_ble_eq_true rfl) (c_isPartM ⟨_, rfl, ?_⟩)
          refine Zp.if_neB k_218_26 (fun c_26 => ?_) (fun c_26 => ?_)
          · exact absurd ⟨⟨by omega, by omega⟩, c_18, by omega⟩ t
          · refine Zp.ldc2 (-1) k_218_29 (by decide) ?_
            refine Zp.lret k_218_32 vr_218 ?_
            first | exact hq I L pm (FrM.rf I) | exact hq I2 L pm2 (fun q hq => s2 q (by omega))
end LOVE5
