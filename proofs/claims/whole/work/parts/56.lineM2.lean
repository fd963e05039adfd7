/-! THE TEXT: the reference reads a line -/
section LINEM2
variable {G : zG} {I : zI} {L : zJ} {Q : zP} {T : zTp} {D : zD} {p : Nat}
theorem c_readLineM (dm : DM I D) (do_ : Do D) (tp : TpM I T) (to : To T) (hp : p ≤ T.1) (rt : RT I T p) (hk3 : ¬ (tok T p).1 = 3) (hk4 : ¬ (tok T p).1 = 4)
    (hbad : ∀ c s' I', lnS T D (tok T p) = .inl (c, s') → FT I' c s' → FrB I I' → Q none I' L)
    (hok : ∀ D' p' I', lnS T D (tok T p) = .inr (D', p') → DM I' D' → RT I' T p' → FrB I I' → Q none I' L) : Zm G 152 [.ref 93] I L Q := by
  have t := tok_ok T hp
  obtain ⟨d1, d2, d3, d4, d5, d6, d7, d8, d9⟩ := id do_
  have o1 := d1.1
  have d41 := d4.1
  have d61 := d6.1
  obtain ⟨k, hk⟩ : ∃ k, (tok T p).1 = k := ⟨_, rfl⟩
  obtain ⟨s, hs⟩ : ∃ s, (tok T p).2.1 = s := ⟨_, rfl⟩
  obtain ⟨e, he⟩ : ∃ e, (tok T p).2.2 = e := ⟨_, rfl⟩
  have rt4 := rt.2.2 hk4
  have r20 := rt.1
  rw [hk] at hk3 hk4 t rt4
  rw [hs] at t r20 rt4
  rw [he] at t rt4
  obtain ⟨g23, g19, g21, -⟩ := rt4
  obtain ⟨m1, m2, m3, m4, m5, m6, m7, m8, m9⟩ := id dm
  have e2 : ¬ k = 0 → lnS T D (tok T p) = .inl (2, s) := fun z => by unfold lnS; rw [hk, hs, if_neg hk4, if_pos z]
  have e0 : k = 0 → lnS T D (tok T p) = sbd (lneS T D s (nmK T s e) e) fun y => sbd (smc T y.2) fun e => .inr (y.1, e) := fun z => by
    unfold lnS
    rw [hk, hs, he, if_neg hk4, if_neg (fun w => w z)]
  have tailF146 : ∀ c s' I2 (K : Int32) (f : Nat), lnS T D (tok T p) = .inl (c, s') → FT I2 c s' → FrB I I2 → I2 93 14 = nI (dp D) → Zp G 152 146 [some (.ref 93), some (.int K), some (.int (nI f))] [] I2 L Q := by
    intro c s' I2 K f hr ft f2 g14
    have fin : ∀ v : Nat, Zp G 152 168 [some (.ref 93), some (.int K), some (.int (nI f))] [] (zpu I2 93 14 (nI v)) L Q := by
      intro v
      have ft2 : FT (zpu I2 93 14 (nI v)) c s' := ft.pu (by decide)
      have h1 := ft2.1
      have h3 := ft2.2.2.1
      have h4 := ft2.2.2.2
      refine Zp.aload_n k_152_168 rfl ?_
      refine Zp.callv0V v_142 k_152_169 m_93 (Nat.le_of_ble_eq_true rfl) (Nat.le_of_ble_eq_true rfl) (c_nextF h1 h3 h4 ⟨rfl, ?_⟩)
      refine Zp.aload_n k_152_172 rfl ?_
      refine Zp.getV k_152_173 rfl (zlt rfl) m_93 h1 ?_
      refine Zp.if_leN k_152_176 (by omega) (fun c_176 => absurd c_176 (by omega)) (fun c_176 => ?_)
      refine Zp.vret k_152_179 vr_152 ?_
      exact hbad c s' _ hr ft2 (f2.fld _ (by decide))
    refine Zp.aload_n k_152_146 rfl ?_
    refine Zp.aload_n k_152_147 rfl ?_
    refine Zp.getV k_152_148 rfl (zlt rfl) m_93 g14 ?_
    refine Zp.if_neN k_152_151 (by omega) (fun c_151 => ?_) (fun c_151 => ?_)
    · refine Zp.iconst (nI 1) k_152_160 (by decide) ?_
      refine Zp.goto k_152_161 ?_
      refine Zp.putZ k_152_165 rfl (zlt rfl) (by decide) m_93 ?_
      exact fin _
    · refine Zp.iload_n k_152_154 rfl ?_
      refine Zp.bipush (nI 6) k_152_155 (by decide) ?_
      refine Zp.icmp_neZ _ _ k_152_157 rfl (nI_toInt (by omega)) (fun c_157 => ?_) (fun c_157 => ?_)
      · refine Zp.iconst (nI 0) k_152_164 (by decide) ?_
        refine Zp.putZ k_152_165 rfl (zlt rfl) (by decide) m_93 ?_
        exact fin _
      · refine Zp.iconst (nI 1) k_152_160 (by decide) ?_
        refine Zp.goto k_152_161 ?_
        refine Zp.putZ k_152_165 rfl (zlt rfl) (by decide) m_93 ?_
        exact fin _
  have tailF123 : ∀ c s' I2 (K : Int32) (f : Nat), lnS T D (tok T p) = .inl (c, s') → FT I2 c s' → I2 93 20 = nI s → FrB I I2 → I2 93 14 = nI (dp D) → Zp G 152 123 [some (.ref 93), some (.int K), some (.int (nI f))] [] I2 L Q := by
    intro c s' I2 K f hr ft h20 f2 g14
    have h1 := ft.1
    have h3 := ft.2.2.1
    have h4 := ft.2.2.2
    have fin := tailF146 c s' I2 K f hr ft f2 g14
    refine Zp.aload_n k_152_123 rfl ?_
    refine Zp.iload_n k_152_124 rfl ?_
    refine Zp.bipush (nI 6) k_152_125 (by decide) ?_
    refine Zp.icmp_neZ _ _ k_152_127 rfl (nI_toInt (by omega)) (fun c_127 => ?_) (fun c_127 => ?_)
    · refine Zp.iconst (nI 1) k_152_137 (by decide) ?_
      refine Zp.goto k_152_138 ?_
      refine Zp.iconst (nI 4) k_152_142 (by decide) ?_
      refine Zp.callv2V v_137 k_152_143 m_93 (Nat.le_of_ble_eq_true rfl) (Nat.le_of_ble_eq_true rfl) (c_needsM h1 h4 (by decide) h20 (fun z => ⟨rfl, fin⟩) (fun z z2 => absurd z2 (by omega)))
      
    · refine Zp.aload_n k_152_130 rfl ?_
      refine Zp.getV k_152_131 rfl (zlt rfl) m_93 g14 ?_
      refine Zp.if_neN k_152_134 (by omega) (fun c_134 => ?_) (fun c_134 => ?_)
      · refine Zp.iconst (nI 0) k_152_141 (by decide) ?_
        refine Zp.iconst (nI 4) k_152_142 (by decide) ?_
        refine Zp.callv2V v_137 k_152_143 m_93 (Nat.le_of_ble_eq_true rfl) (Nat.le_of_ble_eq_true rfl) (c_needsM h1 h4 (by decide) h20 (fun z => ⟨rfl, fin⟩) (fun z z2 => absurd z2 (by omega)))
        
      · refine Zp.iconst (nI 1) k_152_137 (by decide) ?_
        refine Zp.goto k_152_138 ?_
        refine Zp.iconst (nI 4) k_152_142 (by decide) ?_
        refine Zp.callv2V v_137 k_152_143 m_93 (Nat.le_of_ble_eq_true rfl) (Nat.le_of_ble_eq_true rfl) (c_needsM h1 h4 (by decide) h20 (fun z => ⟨rfl, fin⟩) (fun z z2 => absurd z2 (by omega)))
        
  have none_ : lnS T D (tok T p) = .inl (2, s) → Zp G 152 17 [some (.ref 93), none, none] [.int (-4)] I L Q := by
    intro hr
    have ft : FT (zpu (zpu I 93 23 (nI 2)) 93 24 (nI s)) 2 s := ⟨by rw [zpu_k _ _ _ (by decide), zpu_s], zpu_s _ _ _ _, by decide, by decide⟩
    have h1 := ft.1
    have h20 : zpu (zpu I 93 23 (nI 2)) 93 24 (nI s) 93 20 = nI s := by rw [zpu_k _ _ _ (by decide), zpu_k _ _ _ (by decide)]; exact r20
    have f2 : FrB I (zpu (zpu I 93 23 (nI 2)) 93 24 (nI s)) := (((FrN.rf I).pu _ (by decide)).pu _ (by decide)).h.w.b
    have g14 : zpu (zpu I 93 23 (nI 2)) 93 24 (nI s) 93 14 = nI (dp D) := by rw [zpu_k _ _ _ (by decide), zpu_k _ _ _ (by decide)]; exact m7
    have fin := tailF123 2 s _ (-4) 0 hr ft h20 f2 g14
    refine Zp.istore_n [some (.ref _), some (.int _), none] k_152_17 (Nat.lt_of_lt_of_eq (zlt rfl : 1 < 3) vl_152.symm) rfl ?_
    refine Zp.aload_n k_152_18 rfl ?_
    refine Zp.iload_n k_152_19 rfl ?_
    refine Zp.bipush (-4) k_152_20 (by decide) ?_
    refine Zp.icmp_eqZ (-4) (-4) k_152_22 (by decide) (by decide) (fun c_22 => ?_) (fun c_22 => absurd c_22 (by omega))
    refine Zp.iconst (nI 0) k_152_29 (by decide) ?_
    refine Zp.iconst (nI 2) k_152_30 (by decide) ?_
    refine Zp.callv2V v_137 k_152_31 m_93 (Nat.le_of_ble_eq_true rfl) (Nat.le_of_ble_eq_true rfl) (c_needsM g23 (by decide) (by decide) r20 (fun z => absurd z (by decide)) (fun z z2 => ⟨rfl, ?_⟩))
    refine Zp.iload_n k_152_34 rfl ?_
    refine Zp.bipush (nI 7) k_152_35 (by decide) ?_
    refine Zp.icmp_neZ (-4) _ k_152_37 (by decide) (nI_toInt (by omega)) (fun c_37 => ?_) (fun c_37 => absurd c_37 (by omega))
    refine Zp.iload_n k_152_57 rfl ?_
    refine Zp.bipush (nI 8) k_152_58 (by decide) ?_
    refine Zp.icmp_neZ (-4) _ k_152_60 (by decide) (nI_toInt (by omega)) (fun c_60 => ?_) (fun c_60 => absurd c_60 (by omega))
    refine Zp.iload_n k_152_83 rfl ?_
    refine Zp.i2l k_152_84 ?_
    refine Zp.lconst (lN 0) k_152_85 (by decide) ?_
    refine Zp.ldc2 (lN 3) k_152_86 (by decide) ?_
    refine Zp.calls3I vs_131 k_152_89 (Nat.le_of_ble_eq_true rfl) (Nat.le_of_ble_eq_true rfl) (c_in (u := -4) (by decide) (lN_z (by decide)) (lN_z (by decide)) ⟨_, rfl, ?_⟩)
    refine Zp.if_eqB k_152_92 (fun c_92 => ?_) (fun c_92 => absurd c_92 (by omega))
    refine Zp.iconst (nI 0) k_152_107 (by decide) ?_
    refine Zp.istore_n [some (.ref _), some (.int _), some (.int _)] k_152_108 (Nat.lt_of_lt_of_eq (zlt rfl : 2 < 3) vl_152.symm) rfl ?_
    refine Zp.aload_n k_152_109 rfl ?_
    refine Zp.iload_n k_152_110 rfl ?_
    refine Zp.if_neN k_152_111 (by omega) (fun c => absurd c (by decide)) (fun _ => ?_)
    refine Zp.iconst (nI 1) k_152_114 (by decide) ?_
    refine Zp.goto k_152_115 ?_
    refine Zp.iconst (nI 5) k_152_119 (by decide) ?_
    refine Zp.callv2V v_137 k_152_120 m_93 (Nat.le_of_ble_eq_true rfl) (Nat.le_of_ble_eq_true rfl) (c_needsM h1 (by decide) (by decide) h20 (fun z => ⟨rfl, fin⟩) (fun z z2 => absurd z2 (by decide)))
    
  have last : ∀ l f D' p' I2, k = 0 → nmK T s e = l → lneS T D s l e = .inr (D', p') → p' ≤ T.1 → (¬ (tok T p').1 = 4 → DM I2 D') → RT I2 T p' → FrB I I2 → Zp G 152 185 [some (.ref 93), some (.int (nI l)), some (.int (nI f))] [] I2 L Q := by
    intro l f D' p' I2 hk0 hl hr hp' hd rt2 f2
    subst hl
    rcases rt2.f with ⟨k4, h1, ft⟩ | ⟨k4, h1⟩
    · have hrl : lnS T D (tok T p) = .inl (1, (tok T p').2.1) := (e0 hk0).trans ((sbd_r hr).trans (sbd_l (smc4 k4)))
      refine Zp.aload_n k_152_185 rfl ?_
      refine Zp.getV k_152_186 rfl (zlt rfl) m_93 h1 ?_
      refine Zp.if_neN k_152_189 (by omega) (fun c_189 => ?_) (fun c_189 => absurd c_189 (by omega))
      refine Zp.aload_n k_152_210 rfl ?_
      refine Zp.callv0V v_142 k_152_211 m_93 (Nat.le_of_ble_eq_true rfl) (Nat.le_of_ble_eq_true rfl) (c_nextF h1 (by decide) (by decide) ⟨rfl, ?_⟩)
      refine Zp.vret k_152_214 vr_152 ?_
      exact hbad 1 _ I2 hrl ft f2
    · obtain ⟨w1, w2, w3, w4⟩ := rt2.2.2 k4
      have w20 := rt2.1
      have tk := tok_ok T hp'
      by_cases k2 : (tok T p').1 = 2
      · have hsm : smc T p' = .inr (tok T p').2.2 := if_pos k2
        have hrl : lnS T D (tok T p) = .inr (D', (tok T p').2.2) := (e0 hk0).trans ((sbd_r hr).trans (sbd_r hsm))
        have hsr : srt (tok T p').1 = 3 := by rw [k2]; rfl
        rw [hsr] at w3
        refine Zp.aload_n k_152_185 rfl ?_
        refine Zp.getV k_152_186 rfl (zlt rfl) m_93 h1 ?_
        refine Zp.if_neN k_152_189 (by omega) (fun c_189 => absurd c_189 (by omega)) (fun c_189 => ?_)
        refine Zp.aload_n k_152_192 rfl ?_
        refine Zp.aload_n k_152_193 rfl ?_
        refine Zp.getV k_152_194 rfl (zlt rfl) m_93 w3 ?_
        refine Zp.iconst (nI 3) k_152_197 (by decide) ?_
        refine Zp.icmp_neN k_152_198 (by omega) (by omega) (fun c_198 => absurd c_198 (by omega)) (fun c_198 => ?_)
        refine Zp.iconst (nI 1) k_152_201 (by decide) ?_
        refine Zp.goto k_152_202 ?_
        refine Zp.iconst (nI 2) k_152_206 (by decide) ?_
        refine Zp.callv2V v_137 k_152_207 m_93 (Nat.le_of_ble_eq_true rfl) (Nat.le_of_ble_eq_true rfl) (c_needsM h1 (by decide) (by decide) w20 (fun z => ⟨rfl, ?_⟩) (fun z => absurd z (by decide)))
        refine Zp.aload_n k_152_210 rfl ?_
        refine Zp.callv0V v_142 k_152_211 m_93 (Nat.le_of_ble_eq_true rfl) (Nat.le_of_ble_eq_true rfl) (c_nextM (tp.b f2) to tk.2.2.2.2.1 h1 w2 (fun I3 rt3 f3 => ⟨rfl, ?_⟩))
        refine Zp.vret k_152_214 vr_152 ?_
        exact hok D' _ I3 hrl ((hd k4).n f3) rt3 (f2.tr f3.h.w.b)
      · have hsm : smc T p' = .inl (2, (tok T p').2.1) := by unfold smc; rw [if_neg k2, if_neg k4]
        have hrl : lnS T D (tok T p) = .inl (2, (tok T p').2.1) := (e0 hk0).trans ((sbd_r hr).trans (sbd_l hsm))
        have hsr : srt (tok T p').1 ≤ 3 ∧ ¬ srt (tok T p').1 = 3 := by
          unfold srt
          repeat' split
          all_goals omega
        have ft : FT (zpu (zpu I2 93 23 (nI 2)) 93 24 (nI (tok T p').2.1)) 2 (tok T p').2.1 := ⟨by rw [zpu_k _ _ _ (by decide), zpu_s], zpu_s _ _ _ _, by decide, by decide⟩
        refine Zp.aload_n k_152_185 rfl ?_
        refine Zp.getV k_152_186 rfl (zlt rfl) m_93 h1 ?_
        refine Zp.if_neN k_152_189 (by omega) (fun c_189 => absurd c_189 (by omega)) (fun c_189 => ?_)
        refine Zp.aload_n k_152_192 rfl ?_
        refine Zp.aload_n k_152_193 rfl ?_
        refine Zp.getV k_152_194 rfl (zlt rfl) m_93 w3 ?_
        refine Zp.iconst (nI 3) k_152_197 (by decide) ?_
        refine Zp.icmp_neN k_152_198 (by omega) (by omega) (fun c_198 => ?_) (fun c_198 => absurd c_198 (by omega))
        refine Zp.iconst (nI 0) k_152_205 (by decide) ?_
        refine Zp.iconst (nI 2) k_152_206 (by decide) ?_
        refine Zp.callv2V v_137 k_152_207 m_93 (Nat.le_of_ble_eq_true rfl) (Nat.le_of_ble_eq_true rfl) (c_needsM h1 (by decide) (by decide) w20 (fun z => absurd z (by decide)) (fun z z2 => ⟨rfl, ?_⟩))
        refine Zp.aload_n k_152_210 rfl ?_
        refine Zp.callv0V v_142 k_152_211 m_93 (Nat.le_of_ble_eq_true rfl) (Nat.le_of_ble_eq_true rfl) (c_nextF ft.1 ft.2.2.1 ft.2.2.2 ⟨rfl, ?_⟩)
        refine Zp.vret k_152_214 vr_152 ?_
        exact hbad 2 _ _ hrl ft (f2.tr (((FrN.rf I2).pu _ (by decide)).pu _ (by decide)).h.w.b)
  have ok146 : ∀ l f, k = 0 → nmK T s e = l → l ≤ 8 → ¬ full_ D l → ¬ (l = 6 ∧ dp D = 1) → Zp G 152 146 [some (.ref 93), some (.int (nI l)), some (.int (nI f))] [] I L Q := by
    intro l f hk0 hl hl8 hf hpt
    have fin : ∀ v : Nat, v = (if l = 6 then 1 else dp D) → Zp G 152 168 [some (.ref 93), some (.int (nI l)), some (.int (nI f))] [] (zpu I 93 14 (nI v)) L Q := by
      intro v hv
      have q9 : ∀ j, j ≠ 14 → zpu I 93 14 (nI v) 93 j = I 93 j := fun j h => zpu_k _ _ _ h
      have qq : ∀ q, q ≠ 93 → zpu I 93 14 (nI v) q = I q := fun q h => zpu_q _ _ _ h
      have f0 : FrB I (zpu I 93 14 (nI v)) := (FrB.rf I).fld _ (by decide)
      have dm0 : DM (zpu I 93 14 (nI v)) (dK D, dw D, if l = 6 then 1 else dp D, dh D) := ⟨by rw [qq 100 (by decide)]; exact m1, by rw [q9 9 (by decide)]; exact m2, by rw [q9 10 (by decide)]; exact m3, by rw [qq 101 (by decide)]; exact m4, by rw [qq 102 (by decide)]; exact m5, by rw [qq 103 (by decide)]; exact m6, by rw [zpu_s, hv], by rw [q9 15 (by decide)]; exact m8, by rw [q9 16 (by decide)]; exact m9⟩
      have lok : ∀ D' p', lneS T D s l e = .inr (D', p') → p' ≤ T.1 := fun D' p' h => (lneS_ok (by omega) (by omega) do_ h).2.2
      have go : ∀ I3, RT I3 T e → FrN (zpu I 93 14 (nI v)) I3 → Zp G 152 172 [some (.ref 93), some (.int (nI l)), some (.int (nI f))] [] I3 L Q := by
        intro I3 rt3 f3
        have f03 : FrB I I3 := f0.tr f3.h.w.b
        rcases rt3.f with ⟨k4, h1, ft⟩ | ⟨k4, h1⟩
        · have hrl : lnS T D (tok T p) = .inl (1, (tok T e).2.1) := (e0 hk0).trans (by rw [hl]; exact lneS_4 k4 hl8 hf hpt)
          refine Zp.aload_n k_152_172 rfl ?_
          refine Zp.getV k_152_173 rfl (zlt rfl) m_93 h1 ?_
          refine Zp.if_leN k_152_176 (by omega) (fun c_176 => absurd c_176 (by omega)) (fun c_176 => ?_)
          refine Zp.vret k_152_179 vr_152 ?_
          exact hbad 1 _ I3 hrl ft f03
        · have bad : ∀ c s' I4, lneS T D s l e = .inl (c, s') → FT I4 c s' → FrB I3 I4 → Zp G 152 185 [some (.ref 93), some (.int (nI l)), some (.int (nI f))] [] I4 L Q := by
            intro c s' I4 hr ft f4
            have y1 := ft.1
            have y3 := ft.2.2.1
            have y4 := ft.2.2.2
            have hrl : lnS T D (tok T p) = .inl (c, s') := (e0 hk0).trans (by rw [hl]; exact sbd_l hr)
            refine Zp.aload_n k_152_185 rfl ?_
            refine Zp.getV k_152_186 rfl (zlt rfl) m_93 y1 ?_
            refine Zp.if_neN k_152_189 (by omega) (fun c_189 => ?_) (fun c_189 => absurd c_189 (by omega))
            refine Zp.aload_n k_152_210 rfl ?_
            refine Zp.callv0V v_142 k_152_211 m_93 (Nat.le_of_ble_eq_true rfl) (Nat.le_of_ble_eq_true rfl) (c_nextF y1 y3 y4 ⟨rfl, ?_⟩)
            refine Zp.vret k_152_214 vr_152 ?_
            exact hbad c s' I4 hrl ft (f03.tr f4)
          refine Zp.aload_n k_152_172 rfl ?_
          refine Zp.getV k_152_173 rfl (zlt rfl) m_93 h1 ?_
          refine Zp.if_leN k_152_176 (by omega) (fun c_176 => ?_) (fun c_176 => absurd c_176 (by omega))
          refine Zp.aload_n k_152_180 rfl ?_
          refine Zp.iload_n k_152_181 rfl ?_
          refine Zp.callv1V v_151 k_152_182 m_93 (Nat.le_of_ble_eq_true rfl) (Nat.le_of_ble_eq_true rfl) (c_readLineOfM (s := s) (dm0.n f3) do_ (tp.b f03) to (by omega) rt3 hl8 hf hpt (fun c s' I4 hr ft f4 => ⟨rfl, bad c s' I4 hr ft f4⟩) (fun D' p' I4 hr hd rt4 f4 => ⟨rfl, last l f D' p' I4 hk0 hl hr (lok D' p' hr) hd rt4 (f03.tr f4)⟩))
          
      refine Zp.aload_n k_152_168 rfl ?_
      refine Zp.callv0V v_142 k_152_169 m_93 (Nat.le_of_ble_eq_true rfl) (Nat.le_of_ble_eq_true rfl) (c_nextM (p := e) (T := T) (tp.b f0) to (by omega) (by rw [q9 23 (by decide)]; exact g23) (by rw [q9 19 (by decide)]; exact g19) (fun I3 rt3 f3 => ⟨rfl, ?_⟩))
      exact go I3 rt3 f3
    refine Zp.aload_n k_152_146 rfl ?_
    refine Zp.aload_n k_152_147 rfl ?_
    refine Zp.getV k_152_148 rfl (zlt rfl) m_93 m7 ?_
    refine Zp.if_neN k_152_151 (by omega) (fun c_151 => ?_) (fun c_151 => ?_)
    · refine Zp.iconst (nI 1) k_152_160 (by decide) ?_
      refine Zp.goto k_152_161 ?_
      refine Zp.putZ k_152_165 rfl (zlt rfl) (by decide) m_93 ?_
      exact fin _ (by split <;> omega)
    · refine Zp.iload_n k_152_154 rfl ?_
      refine Zp.bipush (nI 6) k_152_155 (by decide) ?_
      refine Zp.icmp_neN k_152_157 (by omega) (by omega) (fun c_157 => ?_) (fun c_157 => ?_)
      · refine Zp.iconst (nI 0) k_152_164 (by decide) ?_
        refine Zp.putZ k_152_165 rfl (zlt rfl) (by decide) m_93 ?_
        exact fin _ (by split <;> omega)
      · refine Zp.iconst (nI 1) k_152_160 (by decide) ?_
        refine Zp.goto k_152_161 ?_
        refine Zp.putZ k_152_165 rfl (zlt rfl) (by decide) m_93 ?_
        exact fin _ (by split <;> omega)
  have names : ∀ l, k = 0 → nmK T s e = l → l ≤ 8 → Zp G 152 17 [some (.ref 93), none, none] [.int (nI l)] I L Q := by
    intro l hk0 hl hl8
    have full1 : full_ D l → Zp G 152 108 [some (.ref 93), some (.int (nI l)), none] [.int (nI 1)] I L Q := by
      intro hf
      have hrl : lnS T D (tok T p) = .inl (5, s) := (e0 hk0).trans (by rw [hl]; exact sbd_l (lneS_full hf))
      have ft : FT (zpu (zpu I 93 23 (nI 5)) 93 24 (nI s)) 5 s := ⟨by rw [zpu_k _ _ _ (by decide), zpu_s], zpu_s _ _ _ _, by decide, by decide⟩
      have fin := tailF123 5 s _ (nI l) 1 hrl ft (by rw [zpu_k _ _ _ (by decide), zpu_k _ _ _ (by decide)]; exact r20) (((FrN.rf I).pu _ (by decide)).pu _ (by decide)).h.w.b (by rw [zpu_k _ _ _ (by decide), zpu_k _ _ _ (by decide)]; exact m7)
      refine Zp.istore_n [some (.ref _), some (.int _), some (.int _)] k_152_108 (Nat.lt_of_lt_of_eq (zlt rfl : 2 < 3) vl_152.symm) rfl ?_
      refine Zp.aload_n k_152_109 rfl ?_
      refine Zp.iload_n k_152_110 rfl ?_
      refine Zp.if_neN k_152_111 (by omega) (fun _ => ?_) (fun c => absurd c (by decide))
      refine Zp.iconst (nI 0) k_152_118 (by decide) ?_
      refine Zp.iconst (nI 5) k_152_119 (by decide) ?_
      refine Zp.callv2V v_137 k_152_120 m_93 (Nat.le_of_ble_eq_true rfl) (Nat.le_of_ble_eq_true rfl) (c_needsM g23 (by decide) (by decide) r20 (fun z => absurd z (by decide)) (fun z z2 => ⟨rfl, fin⟩))
      
    have full0 : ¬ full_ D l → Zp G 152 108 [some (.ref 93), some (.int (nI l)), none] [.int (nI 0)] I L Q := by
      intro hf
      have pot1 : (l = 6 ∧ dp D = 1) → Zp G 152 146 [some (.ref 93), some (.int (nI l)), some (.int (nI 0))] [] (zpu (zpu I 93 23 (nI 4)) 93 24 (nI s)) L Q := by
        intro hpt
        have hrl : lnS T D (tok T p) = .inl (4, s) := (e0 hk0).trans (by
          rw [hl, hpt.1]
          have e9 : lneS T D s 6 e = .inl (4, s) := (show potS T s D e = .inl (4, s) from if_pos hpt.2)
          exact sbd_l e9)
        have ft : FT (zpu (zpu I 93 23 (nI 4)) 93 24 (nI s)) 4 s := ⟨by rw [zpu_k _ _ _ (by decide), zpu_s], zpu_s _ _ _ _, by decide, by decide⟩
        exact tailF146 4 s _ (nI l) 0 hrl ft (((FrN.rf I).pu _ (by decide)).pu _ (by decide)).h.w.b (by rw [zpu_k _ _ _ (by decide), zpu_k _ _ _ (by decide)]; exact m7)
      have fin : ∀ g, g ≤ 1 → (g = 0 ↔ l = 6 ∧ dp D = 1) → Zp G 152 142 [some (.ref 93), some (.int (nI l)), some (.int (nI 0))] [.int (nI g), .ref 93] I L Q := by
        intro g hg hgi
        refine Zp.iconst (nI 4) k_152_142 (by decide) ?_
        refine Zp.callv2V v_137 k_152_143 m_93 (Nat.le_of_ble_eq_true rfl) (Nat.le_of_ble_eq_true rfl) (c_needsM g23 (by decide) hg r20 (fun z => ⟨rfl, ok146 l 0 hk0 hl hl8 hf (fun y => by have := hgi.mpr y; omega)⟩) (fun z z2 => ⟨rfl, pot1 (hgi.mp z)⟩))
        
      refine Zp.istore_n [some (.ref _), some (.int _), some (.int _)] k_152_108 (Nat.lt_of_lt_of_eq (zlt rfl : 2 < 3) vl_152.symm) rfl ?_
      refine Zp.aload_n k_152_109 rfl ?_
      refine Zp.iload_n k_152_110 rfl ?_
      refine Zp.if_neN k_152_111 (by omega) (fun c => absurd c (by decide)) (fun _ => ?_)
      refine Zp.iconst (nI 1) k_152_114 (by decide) ?_
      refine Zp.goto k_152_115 ?_
      refine Zp.iconst (nI 5) k_152_119 (by decide) ?_
      refine Zp.callv2V v_137 k_152_120 m_93 (Nat.le_of_ble_eq_true rfl) (Nat.le_of_ble_eq_true rfl) (c_needsM g23 (by decide) (by decide) r20 (fun z => ⟨rfl, ?_⟩) (fun z => absurd z (by decide)))
      refine Zp.aload_n k_152_123 rfl ?_
      refine Zp.iload_n k_152_124 rfl ?_
      refine Zp.bipush (nI 6) k_152_125 (by decide) ?_
      refine Zp.icmp_neN k_152_127 (by omega) (by omega) (fun c_127 => ?_) (fun c_127 => ?_)
      · refine Zp.iconst (nI 1) k_152_137 (by decide) ?_
        refine Zp.goto k_152_138 ?_
        exact fin _ (by decide) (by omega)
      · refine Zp.aload_n k_152_130 rfl ?_
        refine Zp.getV k_152_131 rfl (zlt rfl) m_93 m7 ?_
        refine Zp.if_neN k_152_134 (by omega) (fun c_134 => ?_) (fun c_134 => ?_)
        · refine Zp.iconst (nI 0) k_152_141 (by decide) ?_
          exact fin _ (by decide) (by omega)
        · refine Zp.iconst (nI 1) k_152_137 (by decide) ?_
          refine Zp.goto k_152_138 ?_
          exact fin _ (by decide) (by omega)
    refine Zp.istore_n [some (.ref _), some (.int _), none] k_152_17 (Nat.lt_of_lt_of_eq (zlt rfl : 1 < 3) vl_152.symm) rfl ?_
    refine Zp.aload_n k_152_18 rfl ?_
    refine Zp.iload_n k_152_19 rfl ?_
    refine Zp.bipush (-4) k_152_20 (by decide) ?_
    refine Zp.icmp_eqZ _ (-4) k_152_22 (nI_toInt (by omega)) (by decide) (fun c_22 => absurd c_22 (by omega)) (fun c_22 => ?_)
    refine Zp.iconst (nI 1) k_152_25 (by decide) ?_
    refine Zp.goto k_152_26 ?_
    refine Zp.iconst (nI 2) k_152_30 (by decide) ?_
    refine Zp.callv2V v_137 k_152_31 m_93 (Nat.le_of_ble_eq_true rfl) (Nat.le_of_ble_eq_true rfl) (c_needsM g23 (by decide) (by decide) r20 (fun z => ⟨rfl, ?_⟩) (fun z => absurd z (by decide)))
    refine Zp.iload_n k_152_34 rfl ?_
    refine Zp.bipush (nI 7) k_152_35 (by decide) ?_
    refine Zp.icmp_neN k_152_37 (by omega) (by omega) (fun c_37 => ?_) (fun c_37 => ?_)
    · refine Zp.iload_n k_152_57 rfl ?_
      refine Zp.bipush (nI 8) k_152_58 (by decide) ?_
      refine Zp.icmp_neN k_152_60 (by omega) (by omega) (fun c_60 => ?_) (fun c_60 => ?_)
      · refine Zp.iload_n k_152_83 rfl ?_
        refine Zp.i2l k_152_84 ?_
        refine Zp.lconst (lN 0) k_152_85 (by decide) ?_
        refine Zp.ldc2 (lN 3) k_152_86 (by decide) ?_
        refine Zp.calls3I vs_131 k_152_89 (Nat.le_of_ble_eq_true rfl) (Nat.le_of_ble_eq_true rfl) (c_in (zi2n (by omega)) (lN_z (by decide)) (lN_z (by decide)) ⟨_, rfl, ?_⟩)
        refine Zp.if_eqB k_152_92 (fun c_92 => ?_) (fun c_92 => ?_)
        · refine Zp.iconst (nI 0) k_152_107 (by decide) ?_
          first | exact full1 (by unfold full_; omega) | exact full0 (by unfold full_; omega)
        · refine Zp.aload_n k_152_95 rfl ?_
          refine Zp.getV k_152_96 rfl (zlt rfl) m_93 m2 ?_
          refine Zp.iconst (nI 5) k_152_99 (by decide) ?_
          refine Zp.icmp_neN k_152_100 (by omega) (by omega) (fun c_100 => ?_) (fun c_100 => ?_)
          · refine Zp.iconst (nI 0) k_152_107 (by decide) ?_
            first | exact full1 (by unfold full_; omega) | exact full0 (by unfold full_; omega)
          · refine Zp.iconst (nI 1) k_152_103 (by decide) ?_
            refine Zp.goto k_152_104 ?_
            first | exact full1 (by unfold full_; omega) | exact full0 (by unfold full_; omega)
      · refine Zp.aload_n k_152_63 rfl ?_
        refine Zp.getR k_152_64 rfl (zlt rfl) m_93 r_93_8 ?_
        refine Zp.bipush (nI 36) k_152_67 (by decide) ?_
        refine Zp.iald _ k_152_69 m_100 rfl (by omega) (zlt rfl) m1.2.2.1 ?_
        refine Zp.bipush (nI 8) k_152_70 (by decide) ?_
        refine Zp.icmp_neN k_152_72 (by omega) (by omega) (fun c_72 => ?_) (fun c_72 => ?_)
        · refine Zp.iconst (nI 0) k_152_79 (by decide) ?_
          refine Zp.goto k_152_80 ?_
          first | exact full1 (by unfold full_; omega) | exact full0 (by unfold full_; omega)
        · refine Zp.iconst (nI 1) k_152_75 (by decide) ?_
          refine Zp.goto k_152_76 ?_
          first | exact full1 (by unfold full_; omega) | exact full0 (by unfold full_; omega)
    · refine Zp.aload_n k_152_40 rfl ?_
      refine Zp.getV k_152_41 rfl (zlt rfl) m_93 m3 ?_
      refine Zp.bipush (nI 6) k_152_44 (by decide) ?_
      refine Zp.icmp_neN k_152_46 (by omega) (by omega) (fun c_46 => ?_) (fun c_46 => ?_)
      · refine Zp.iconst (nI 0) k_152_53 (by decide) ?_
        refine Zp.goto k_152_54 ?_
        first | exact full1 (by unfold full_; omega) | exact full0 (by unfold full_; omega)
      · refine Zp.iconst (nI 1) k_152_49 (by decide) ?_
        refine Zp.goto k_152_50 ?_
        first | exact full1 (by unfold full_; omega) | exact full0 (by unfold full_; omega)
  have hsr : srt k ≤ 3 ∧ (srt k = 1 ↔ k = 0) := by
    unfold srt
    repeat' split
    all_goals omega
  have nle := nmK_le T s e
  have tse := t.2.2.2.2.2.2.2.2
  have named : k = 0 → Zp G 152 17 [some (.ref 93), none, none] [.int (lnM (nmK T s e))] I L Q := by
    intro hk0
    by_cases h9 : nmK T s e = 9
    · have e9 : lnM (nmK T s e) = -4 := if_pos h9
      rw [e9]
      exact none_ ((e0 hk0).trans (by rw [h9]; exact sbd_l rfl))
    · have e9 : lnM (nmK T s e) = nI (nmK T s e) := if_neg h9
      rw [e9]
      exact names _ hk0 rfl (by omega)
  refine Zm.go [some (.ref _), none, none] vl_152 rfl ?_
  refine Zp.aload_n k_152_0 rfl ?_
  refine Zp.getV k_152_1 rfl (zlt rfl) m_93 g21 ?_
  refine Zp.iconst (nI 1) k_152_4 (by decide) ?_
  refine Zp.icmp_neN k_152_5 (by omega) (by omega) (fun c_5 => ?_) (fun c_5 => ?_)
  · refine Zp.bipush (-4) k_152_15 (by decide) ?_
    first | exact named (by omega) | exact none_ (e2 (by omega))
  · refine Zp.aload_n k_152_8 rfl ?_
    refine Zp.callv0I v_141 k_152_9 m_93 (Nat.le_of_ble_eq_true rfl) (Nat.le_of_ble_eq_true rfl) (c_lineNowM tp to r20 g19 (by omega) (by omega) ⟨_, rfl, ?_⟩)
    refine Zp.goto k_152_12 ?_
    first | exact named (by omega) | exact none_ (e2 (by omega))
end LINEM2
