/-! READING A SHEET: the reference's loop, both sides -/
/-- the locals known of one list are known of another -/
def zle : List (Option Value) → List (Option Value) → Prop
  | [], _ => True
  | none :: a, b => zle a b.tail
  | some v :: a, b => b.head? = some (some v) ∧ zle a b.tail
theorem zle_sub : ∀ {lo' lo : List (Option Value)}, zle lo' lo → ∀ (i : Nat) (v : Value), lo'[i]? = some (some v) → lo[i]? = some (some v)
  | [], _, _, _, _, hv => by simp at hv
  | none :: a, b, h, 0, v, hv => by simp at hv
  | none :: a, b, h, i + 1, v, hv => by
    have := zle_sub (lo' := a) h i v (by simpa using hv)
    cases b with
    | nil => simp at this
    | cons x t => simpa using this
  | some w :: a, b, h, 0, v, hv => by
    have h1 : some w = some v := by simpa using hv
    cases b with
    | nil => exact absurd h.1 (by simp)
    | cons x t => rw [← h1]; exact h.1
  | some w :: a, b, h, i + 1, v, hv => by
    have := zle_sub (lo' := a) h.2 i v (by simpa using hv)
    cases b with
    | nil => simp at this
    | cons x t => simpa using this
/-- the sheets' fault -/
def wR (A : zQs) (r : Nat) : zQs := (A.1, A.2.1, A.2.2.1, A.2.2.2.1, A.2.2.2.2.1, A.2.2.2.2.2.1, A.2.2.2.2.2.2.1, r, A.2.2.2.2.2.2.2.2)
theorem PicC.torn {A : zQs} {I : zI} {r : Nat} (pc : PicC A I) : PicC (wR A r) (zpu I 0 10 (nI r)) := by
  obtain ⟨h1, h2, h3, h4, h5, h6, h7, h8, h9⟩ := pc
  have e : ∀ q, 0 < q → zpu I 0 10 (nI r) q = I q := fun q h => zpu_q _ _ _ (by omega)
  refine ⟨h1.fr fun q a b => e q (by omega), by rw [zpu_k _ _ _ (by decide)]; exact h2, fun c => (h3 c).fr fun q a b => e q (by omega), fun c => (h4 c).fr fun q a b => e q (by omega), by rw [e 29 (by omega)]; exact h5, by rw [e 30 (by omega)]; exact h6, by rw [zpu_k _ _ _ (by decide)]; exact h7, zpu_s _ _ _ _, fun k hk => ?_⟩
  have := h9 k hk
  unfold Hc at this ⊢
  rw [e (85 + 2 * k) (by omega), e (86 + 2 * k) (by omega)]
  exact this
theorem PicM.torn {A : zQs} {I : zI} {r : Nat} (pm : PicM A I) : PicM (wR A r) (zpu I 93 34 (nI r)) := by
  obtain ⟨m3, mx, m4, ms1, ms2, ms3, mk0, mk1, mi0, mi1, mt, mb, mf, mr, mh⟩ := pm
  have e : ∀ q, q ≠ 93 → zpu I 93 34 (nI r) q = I q := fun q h => zpu_q _ _ _ h
  refine ⟨by rw [zpu_k _ _ _ (by decide)]; exact m3, by rw [e 94 (by decide)]; exact mx, by rw [zpu_k _ _ _ (by decide)]; exact m4, by rw [e 97 (by decide)]; exact ms1, by rw [e 98 (by decide)]; exact ms2, by rw [e 99 (by decide)]; exact ms3, by rw [e 96 (by decide)]; exact mk0, by rw [e 96 (by decide)]; exact mk1, by rw [e 94 (by decide)]; exact mi0, by rw [e 94 (by decide)]; exact mi1, by rw [zpu_k _ _ _ (by decide)]; exact mt, by rw [e 104 (by decide)]; exact mb, by rw [zpu_k _ _ _ (by decide)]; exact mf, zpu_s _ _ _ _, fun k hk => ?_⟩
  have := mh k hk
  unfold Hm at this ⊢
  rw [e 107 (by decide), e 108 (by decide), e 109 (by decide)]
  exact this
theorem Ao.torn {A : zQs} {r : Nat} (ho : Ao A) (hr : r ≤ 4) : Ao (wR A r) := by
  obtain ⟨q0, q1, q2, q3, q4, q5, q6, q7, q8, oh⟩ := ho
  exact ⟨q0, q1, q2, q3, q4, q5, q6, q7, hr, oh⟩
theorem sh_at : ∀ k, k < 4 → (58, k, 85 + 2 * k) ∈ R0 ∧ M0[85 + 2 * k]? = some (6, 0) ∧ (85 + 2 * k, 1, 85 + 2 * k + 1) ∈ R0 ∧ M0[85 + 2 * k + 1]? = some (50, 40) := by decide +kernel
theorem rdR_ok {cl : Nat → Int32} {sz : Nat} {f : Int} : ∀ fuel i (S : zSo) {v : Int32} {m : Nat} {S' : zSo}, rdR cl sz f fuel i S = (v, m, some S') → So S → Sz S → sstep S ≤ snoon S → So S' ∧ Sz S' ∧ sn S' = sn S ∧ sstep S' ≤ snoon S' ∧ m ≤ 2
  | 0, i, S, v, m, S', h, ho, hz, hs => by
    have h2 : (nI i, 0, some S) = (v, m, some S') := h
    cases h2
    exact ⟨ho, hz, rfl, hs, by omega⟩
  | fuel + 1, i, S, v, m, S', h, ho, hz, hs => by
    unfold rdR at h
    split at h
    · split at h
      · rename_i w1 w2
        obtain ⟨a, ha, ea, ea2⟩ := zin_nI w2.1.1.1 w2.1.1.2
        obtain ⟨b, hb, eb, eb2⟩ := zin_nI w2.1.2.1.1 w2.1.2.1.2
        have o1 := ho.1
        rw [ea2, eb2, Int.toNat_natCast, Int.toNat_natCast] at h
        have r := rdR_ok fuel (i + 1) (stS S a b) h (ho.st a b) (hz.st o1 ha hb (by omega)) (by rw [stS_step, stS_noon]; omega)
        exact ⟨r.1, r.2.1, r.2.2.1.trans (stS_n S a b), r.2.2.2⟩
      · simp only [Prod.mk.injEq] at h
        exact absurd h.2.2 (by simp)
    · simp only [Prod.mk.injEq, Option.some.injEq] at h
      obtain ⟨h1, h2, h3⟩ := h
      subst h3
      exact ⟨ho, hz, rfl, hs, by omega⟩
section READ2
variable {G : zG} {A : zQs} {I : zI} {L : zJ} {Q : zP}
/-- the reference keeps what is now aside -/
theorem c_readHad {k lane n : Nat} {x : Int32} (hq : ∀ I', (∀ j, j < 58 → I' 110 j = I 94 j) → (∀ q, q ≠ 110 → I' q = I q) → Zp G 226 53 [some (.ref 93), some (.int (nI k)), some (.int (nI lane)), some (.int x), some (.int (nI n)), some (.int (nI 58)), none, none, none, none, none] [] I' L Q) :
    ∀ m i (I1 : zI), i + m = 58 → (∀ j, j < i → I1 110 j = I 94 j) → (∀ q, q ≠ 110 → I1 q = I q) → Zp G 226 26 [some (.ref 93), some (.int (nI k)), some (.int (nI lane)), some (.int x), some (.int (nI n)), some (.int (nI i)), none, none, none, none, none] [] I1 L Q := by
  intro m
  induction m with
  | zero =>
    intro i I1 hi h1 h2
    have e : i = 58 := by omega
    subst e
    refine Zp.iload k_226_26 rfl ?_
    refine Zp.bipush (nI 58) k_226_28 (by decide) ?_
    refine Zp.icmp_geN k_226_30 (by omega) (by omega) (fun c_30 => ?_) (fun c_30 => absurd c_30 (by omega))
    exact hq I1 h1 h2
  | succ m ih =>
    intro i I1 hi h1 h2
    refine Zp.iload k_226_26 rfl ?_
    refine Zp.bipush (nI 58) k_226_28 (by decide) ?_
    refine Zp.icmp_geN k_226_30 (by omega) (by omega) (fun c_30 => absurd c_30 (by omega)) (fun c_30 => ?_)
    refine Zp.aload_n k_226_33 rfl ?_
    refine Zp.getR k_226_34 rfl (zlt rfl) m_93 r_93_35 ?_
    refine Zp.iload k_226_37 rfl ?_
    refine Zp.aload_n k_226_39 rfl ?_
    refine Zp.getR k_226_40 rfl (zlt rfl) m_93 r_93_0 ?_
    refine Zp.iload k_226_43 rfl ?_
    refine Zp.iald _ k_226_45 m_94 rfl (by omega) (zlt rfl) rfl ?_
    refine Zp.iast _ k_226_46 m_110 rfl (by omega) (zlt rfl) ?_
    refine Zp.iinc (nI (_ + 1)) [some (.ref _), some (.int _), some (.int _), some (.int _), some (.int _), some (.int _), none, none, none, none, none] k_226_47 rfl (nI_1 _) (Nat.lt_of_lt_of_eq (zlt rfl : 5 < 11) vl_226.symm) rfl ?_
    refine Zp.goto k_226_50 ?_
    refine ih (i + 1) _ (by omega) (fun j hj => ?_) (fun q hq => by rw [zpu_q _ _ _ hq, h2 q hq])
    by_cases e : j = i
    · subst e; rw [zpu_s, h2 94 (by decide)]
    · rw [zpu_k _ _ _ e]; exact h1 j (by omega)
/-- the reference's loop -/
theorem c_readLoopM {k lane n : Nat} {x : Int32} (pm : PicM A I) (ho0 : Ao A) (hk : k < 4) (hl3 : lane < 3) (hs : (aH A k).1 = lane + 1) (hn : n ≤ 12) :
    ∀ fuel i (S : zSo) (I1 : zI), i + fuel = n → sn S = sn (kS (aK A)) → PicM (wK A (S, (aK A).2)) I1 → Ao (wK A (S, (aK A).2)) → FrM I I1 → (∀ j, j < 58 → I1 110 j = I 94 j) →
      (∀ v m S' i' I2, rdR (aH A k).2.2 (aH A k).2.1 x.toInt fuel i S = (v, m, some S') → PicM (wK A (S', (aK A).2)) I2 → FrM I I2 → Zp G 226 250 [some (.ref 93), some (.int (nI k)), some (.int (nI lane)), some (.int x), some (.int (nI n)), some (.int (nI m)), some (.int v), some (.int (nI i')), none, none, none] [] I2 L Q) →
      (∀ v m I2, rdR (aH A k).2.2 (aH A k).2.1 x.toInt fuel i S = (v, m, none) → PicM A I2 → FrM I I2 → Q (some (.int v)) I2 L) →
      Zp G 226 62 [some (.ref 93), some (.int (nI k)), some (.int (nI lane)), some (.int x), some (.int (nI n)), some (.int (nI 0)), some (.int (nI i)), some (.int (nI i)), none, none, none] [] I1 L Q := by
  intro fuel
  induction fuel with
  | zero =>
    intro i S I1 hi hsn pm1 ho1 f1 hd hend hbad
    have e : i = n := by omega
    subst e
    refine Zp.iload k_226_62 rfl ?_
    refine Zp.iload k_226_64 rfl ?_
    refine Zp.icmp_geN k_226_66 (by omega) (by omega) (fun c_66 => ?_) (fun c_66 => absurd c_66 (by omega))
    exact hend _ _ _ _ I1 rfl pm1 f1
  | succ fuel ih =>
    intro i S I1 hi hsn pm1 ho1 f1 hd hend hbad
    obtain ⟨m3, ⟨mp, xp⟩, m4, ms1, ms2, ms3, mk0, mk1, mi0, mi1, mt, mb, mf, mr, mh⟩ := id pm1
    have oh := (ho0.2.2.2.2.2.2.2.2.2 k hk).2
    have h0 : I1 107 k = nI ((aH A k).1 - 1) ∧ I1 108 k = nI (aH A k).2.1 ∧ ∀ i, i < (aH A k).2.1 → I1 109 (40 * k + i) = (aH A k).2.2 i := (mh k hk).2 (by show (aH A k).1 ≠ 0; omega)
    have h107 : I1 107 k = nI lane := by rw [h0.1, hs, Nat.add_sub_cancel]
    have xr := fb_rngZ x
    have eP : ∀ c : Nat, c < 2 → ((x.toInt64 + (nI (2 * i)).toInt64) + (nI c).toInt64).toInt = x.toInt + 2 * i + c := by
      intro c hc
      have z1 : (x.toInt64).toInt = x.toInt := zi2l x
      have z2 : (nI (2 * i)).toInt64.toInt = ((2 * i : Nat) : Int) := zi2n (by omega)
      have z3 : (nI c).toInt64.toInt = (c : Int) := zi2n (by omega)
      have z4 : (x.toInt64 + (nI (2 * i)).toInt64).toInt = x.toInt + 2 * i := by
        rw [Jvm.Kit.i64_add (by rw [z1, z2]; omega) (by rw [z1, z2]; omega), z1, z2]
        omega
      rw [Jvm.Kit.i64_add (by rw [z4, z3]; omega) (by rw [z4, z3]; omega), z4, z3]
    have st : ∀ c r : Nat, c < 2 → r = (if 0 ≤ x.toInt + 2 * i + c ∧ x.toInt + 2 * i + c < (aH A k).2.1 then 0 else 2) → Zp G 226 77 [some (.ref 93), some (.int (nI k)), some (.int (nI lane)), some (.int x), some (.int (nI n)), some (.int (nI r)), some (.int (nI i)), some (.int (nI i)), some (.int (nI (c + 1))), none, none] [] I1 L Q → Zp G 226 77 [some (.ref 93), some (.int (nI k)), some (.int (nI lane)), some (.int x), some (.int (nI n)), some (.int (nI 0)), some (.int (nI i)), some (.int (nI i)), some (.int (nI c)), none, none] [] I1 L Q := by
      intro c r hc hr k7
      have l1 := (lg_cmp_lt (x.toInt64 + (nI (2 * i)).toInt64 + (nI c).toInt64) (lN 0)).trans Int64.lt_iff_toInt_lt
      rw [eP c hc, lN_z (by decide)] at l1
      have l2 := (lg_cmp_lt (x.toInt64 + (nI (2 * i)).toInt64 + (nI c).toInt64) (nI (aH A k).2.1).toInt64).trans Int64.lt_iff_toInt_lt
      rw [eP c hc, zi2n (by omega)] at l2
      refine Zp.iload k_226_77 rfl ?_
      refine Zp.iconst (nI 2) k_226_79 (by decide) ?_
      refine Zp.icmp_geN k_226_80 (by omega) (by omega) (fun c_80 => absurd c_80 (by omega)) (fun c_80 => ?_)
      refine Zp.iload k_226_83 rfl ?_
      refine Zp.if_neN k_226_85 (by omega) (fun c => absurd c (by decide)) (fun _ => ?_)
      refine Zp.iload_n k_226_88 rfl ?_
      refine Zp.i2l k_226_89 ?_
      refine Zp.iconst (nI 2) k_226_90 (by decide) ?_
      refine Zp.iload k_226_91 rfl ?_
      refine Zp.imulN k_226_93 ?_
      refine Zp.i2l k_226_94 ?_
      refine Zp.ladd k_226_95 ?_
      refine Zp.iload k_226_96 rfl ?_
      refine Zp.i2l k_226_98 ?_
      refine Zp.ladd k_226_99 ?_
      refine Zp.lstore [some (.ref _), some (.int _), some (.int _), some (.int _), some (.int _), some (.int _), some (.int _), some (.int _), some (.int _), some (.long _), none] k_226_100 (Nat.lt_of_lt_of_eq (zlt rfl : 9 + 1 < 11) vl_226.symm) rfl ?_
      refine Zp.aload_n k_226_102 rfl ?_
      refine Zp.getR k_226_103 rfl (zlt rfl) m_93 r_93_31 ?_
      refine Zp.iload_n k_226_106 rfl ?_
      refine Zp.iald _ k_226_107 m_107 rfl (by omega) (zlt rfl) h107 ?_
      refine Zp.bipush (-4) k_226_108 (by decide) ?_
      refine Zp.icmp_neZ _ (-4) k_226_110 (nI_toInt (by omega)) (by decide) (fun c_110 => ?_) (fun c_110 => absurd c_110 (by omega))
      refine Zp.aload_n k_226_117 rfl ?_
      refine Zp.getR k_226_118 rfl (zlt rfl) m_93 r_93_31 ?_
      refine Zp.iload_n k_226_121 rfl ?_
      refine Zp.iald _ k_226_122 m_107 rfl (by omega) (zlt rfl) h107 ?_
      refine Zp.iload_n k_226_123 rfl ?_
      refine Zp.icmp_eqN k_226_124 (by omega) (by omega) (fun c_124 => ?_) (fun c_124 => absurd c_124 (by omega))
      refine Zp.lload k_226_131 rfl ?_
      refine Zp.lconst (lN 0) k_226_133 (by decide) ?_
      refine Zp.lcmp k_226_134 ?_
      refine Zp.if_lt k_226_135 (fun c_135 => ?_) (fun c_135 => ?_)
      · refine Zp.iconst (nI 2) k_226_151 (by decide) ?_
        refine Zp.goto k_226_152 ?_
        refine Zp.istore [some (.ref _), some (.int _), some (.int _), some (.int _), some (.int _), some (.int _), some (.int _), some (.int _), some (.int _), some (.long _), none] k_226_156 (Nat.lt_of_lt_of_eq (zlt rfl : 5 < 11) vl_226.symm) rfl ?_
        refine Zp.iinc (nI (_ + 1)) [some (.ref _), some (.int _), some (.int _), some (.int _), some (.int _), some (.int _), some (.int _), some (.int _), some (.int _), some (.long _), none] k_226_158 rfl (nI_1 _) (Nat.lt_of_lt_of_eq (zlt rfl : 8 < 11) vl_226.symm) rfl ?_
        refine Zp.goto k_226_161 ?_
        first
          | (have z1 := l1.mp c_135; rw [if_neg (by omega)] at hr; subst hr; exact Zp.locs _ (zle_sub (by simp [zle])) k7)
          | (have z1 := (not_congr l1).mp c_135; have z2 := l2.mp c_148; rw [if_pos ⟨by omega, by omega⟩] at hr; subst hr; exact Zp.locs _ (zle_sub (by simp [zle])) k7)
          | (have z1 := (not_congr l1).mp c_135; have z2 := (not_congr l2).mp c_148; rw [if_neg (by omega)] at hr; subst hr; exact Zp.locs _ (zle_sub (by simp [zle])) k7)
      · refine Zp.lload k_226_138 rfl ?_
        refine Zp.aload_n k_226_140 rfl ?_
        refine Zp.getR k_226_141 rfl (zlt rfl) m_93 r_93_32 ?_
        refine Zp.iload_n k_226_144 rfl ?_
        refine Zp.iald _ k_226_145 m_108 rfl (by omega) (zlt rfl) h0.2.1 ?_
        refine Zp.i2l k_226_146 ?_
        refine Zp.lcmp k_226_147 ?_
        refine Zp.if_lt k_226_148 (fun c_148 => ?_) (fun c_148 => ?_)
        · refine Zp.iconst (nI 0) k_226_155 (by decide) ?_
          refine Zp.istore [some (.ref _), some (.int _), some (.int _), some (.int _), some (.int _), some (.int _), some (.int _), some (.int _), some (.int _), some (.long _), none] k_226_156 (Nat.lt_of_lt_of_eq (zlt rfl : 5 < 11) vl_226.symm) rfl ?_
          refine Zp.iinc (nI (_ + 1)) [some (.ref _), some (.int _), some (.int _), some (.int _), some (.int _), some (.int _), some (.int _), some (.int _), some (.int _), some (.long _), none] k_226_158 rfl (nI_1 _) (Nat.lt_of_lt_of_eq (zlt rfl : 8 < 11) vl_226.symm) rfl ?_
          refine Zp.goto k_226_161 ?_
          first
            | (have z1 := l1.mp c_135; rw [if_neg (by omega)] at hr; subst hr; exact Zp.locs _ (zle_sub (by simp [zle])) k7)
            | (have z1 := (not_congr l1).mp c_135; have z2 := l2.mp c_148; rw [if_pos ⟨by omega, by omega⟩] at hr; subst hr; exact Zp.locs _ (zle_sub (by simp [zle])) k7)
            | (have z1 := (not_congr l1).mp c_135; have z2 := (not_congr l2).mp c_148; rw [if_neg (by omega)] at hr; subst hr; exact Zp.locs _ (zle_sub (by simp [zle])) k7)
        · refine Zp.iconst (nI 2) k_226_151 (by decide) ?_
          refine Zp.goto k_226_152 ?_
          refine Zp.istore [some (.ref _), some (.int _), some (.int _), some (.int _), some (.int _), some (.int _), some (.int _), some (.int _), some (.int _), some (.long _), none] k_226_156 (Nat.lt_of_lt_of_eq (zlt rfl : 5 < 11) vl_226.symm) rfl ?_
          refine Zp.iinc (nI (_ + 1)) [some (.ref _), some (.int _), some (.int _), some (.int _), some (.int _), some (.int _), some (.int _), some (.int _), some (.int _), some (.long _), none] k_226_158 rfl (nI_1 _) (Nat.lt_of_lt_of_eq (zlt rfl : 8 < 11) vl_226.symm) rfl ?_
          refine Zp.goto k_226_161 ?_
          first
            | (have z1 := l1.mp c_135; rw [if_neg (by omega)] at hr; subst hr; exact Zp.locs _ (zle_sub (by simp [zle])) k7)
            | (have z1 := (not_congr l1).mp c_135; have z2 := l2.mp c_148; rw [if_pos ⟨by omega, by omega⟩] at hr; subst hr; exact Zp.locs _ (zle_sub (by simp [zle])) k7)
            | (have z1 := (not_congr l1).mp c_135; have z2 := (not_congr l2).mp c_148; rw [if_neg (by omega)] at hr; subst hr; exact Zp.locs _ (zle_sub (by simp [zle])) k7)
    by_cases w : 0 ≤ x.toInt + 2 * i ∧ x.toInt + 2 * i + 1 < (aH A k).2.1
    · obtain ⟨pp, hpp⟩ : ∃ pp : Nat, (x.toInt + 2 * i).toNat = pp := ⟨_, rfl⟩
      have rd1 : rdR (aH A k).2.2 (aH A k).2.1 x.toInt (fuel + 1) i S = if ((0 ≤ ((aH A k).2.2 pp).toInt ∧ ((aH A k).2.2 pp).toInt < (sn S : Int)) ∧ (0 ≤ ((aH A k).2.2 (pp + 1)).toInt ∧ ((aH A k).2.2 (pp + 1)).toInt < (sn S : Int)) ∧ ¬ ((aH A k).2.2 pp).toInt = ((aH A k).2.2 (pp + 1)).toInt) ∧ sset S = 0 ∧ sstep S < snoon S then rdR (aH A k).2.2 (aH A k).2.1 x.toInt fuel (i + 1) (stS S ((aH A k).2.2 pp).toInt.toNat ((aH A k).2.2 (pp + 1)).toInt.toNat) else ((-20) - nI i, 0, none) := by
        rw [← hpp]
        exact if_pos w
      have c1 : I1 109 (40 * k + pp) = (aH A k).2.2 pp := h0.2.2 pp (by omega)
      have c2 : I1 109 (40 * k + pp + 1) = (aH A k).2.2 (pp + 1) := h0.2.2 (pp + 1) (by omega)
      have ep : nI (40 * k) + x + nI (2 * i) = nI (40 * k + pp) := by
        have ex : x.toInt = (pp : Int) - 2 * i := by omega
        apply Int32.toInt_inj.mp
        have e1 : (nI (40 * k) + x).toInt = 40 * k + x.toInt := by
          rw [Int32.toInt_add, nI_toInt (by omega)]
          rw [Jvm.Kit.bmod32 (by omega) (by omega)]
          omega
        rw [Int32.toInt_add, e1, nI_toInt (by omega), nI_toInt (by omega), Jvm.Kit.bmod32 (by omega) (by omega)]
        omega
      have t0 : ∀ I2 v, ¬ mayS S ((aH A k).2.2 pp) ((aH A k).2.2 (pp + 1)) → v.toInt < 0 → PicM (wK A (S, (aK A).2)) I2 → FrM I1 I2 → (∀ q, 94 < q → q ≠ 95 → I2 q = I1 q) → Zp G 226 202 [some (.ref 93), some (.int (nI k)), some (.int (nI lane)), some (.int x), some (.int (nI n)), some (.int (nI 0)), some (.int (nI i)), some (.int (nI i)), some (.int (nI (40 * k + pp))), none, none] [.int v] I2 L Q := by
        intro I2 v hno hv pm2 f2 g2
        rw [if_neg (show ¬ (((0 ≤ ((aH A k).2.2 pp).toInt ∧ ((aH A k).2.2 pp).toInt < (sn S : Int)) ∧ (0 ≤ ((aH A k).2.2 (pp + 1)).toInt ∧ ((aH A k).2.2 (pp + 1)).toInt < (sn S : Int)) ∧ ¬ ((aH A k).2.2 pp).toInt = ((aH A k).2.2 (pp + 1)).toInt) ∧ sset S = 0 ∧ sstep S < snoon S) from hno)] at rd1
        have back : ∀ m c (I3 : zI), c + m = 58 → (∀ j, j < c → I3 94 j = I 94 j) → (∀ j, 58 ≤ j → I3 94 j = I2 94 j) → (∀ q, q ≠ 94 → I3 q = I2 q) → Zp G 226 208 [some (.ref 93), some (.int (nI k)), some (.int (nI lane)), some (.int x), some (.int (nI n)), some (.int (nI 0)), some (.int (nI i)), some (.int (nI i)), some (.int (nI (40 * k + pp))), some (.int (nI c)), none] [] I3 L Q := by
          intro m
          induction m with
          | zero =>
            intro c I3 hc h1 h2 h3
            have e : c = 58 := by omega
            subst e
            have pm3 : PicM A I3 := pm2.st ho1 (K := aK A) ⟨hsn.symm, rfl, fun _ _ => ⟨rfl, rfl, rfl⟩⟩ (pm.2.1.fr ho0.1 h1) h2 (fun q a b => h3 q a)
            refine Zp.iload k_226_208 rfl ?_
            refine Zp.bipush (nI 58) k_226_210 (by decide) ?_
            refine Zp.icmp_geN k_226_212 (by omega) (by omega) (fun c_212 => ?_) (fun c_212 => absurd c_212 (by omega))
            refine Zp.bipush (-20) k_226_235 (by decide) ?_
            refine Zp.iload k_226_237 rfl ?_
            refine Zp.isub k_226_239 ?_
            refine Zp.iret _ k_226_240 vr_226 rfl ?_
            exact hbad _ _ I3 rd1 pm3 (fun q h => (h3 q (by omega)).trans ((f2 q h).trans (f1 q h)))
          | succ m ih2 =>
            intro c I3 hc h1 h2 h3
            refine Zp.iload k_226_208 rfl ?_
            refine Zp.bipush (nI 58) k_226_210 (by decide) ?_
            refine Zp.icmp_geN k_226_212 (by omega) (by omega) (fun c_212 => absurd c_212 (by omega)) (fun c_212 => ?_)
            refine Zp.aload_n k_226_215 rfl ?_
            refine Zp.getR k_226_216 rfl (zlt rfl) m_93 r_93_0 ?_
            refine Zp.iload k_226_219 rfl ?_
            refine Zp.aload_n k_226_221 rfl ?_
            refine Zp.getR k_226_222 rfl (zlt rfl) m_93 r_93_35 ?_
            refine Zp.iload k_226_225 rfl ?_
            refine Zp.iald _ k_226_227 m_110 rfl (by omega) (zlt rfl) rfl ?_
            refine Zp.iast _ k_226_228 m_94 rfl (by omega) (zlt rfl) ?_
            refine Zp.iinc (nI (_ + 1)) [some (.ref _), some (.int _), some (.int _), some (.int _), some (.int _), some (.int _), some (.int _), some (.int _), some (.int _), some (.int _), none] k_226_229 rfl (nI_1 _) (Nat.lt_of_lt_of_eq (zlt rfl : 9 < 11) vl_226.symm) rfl ?_
            refine Zp.goto k_226_232 ?_
            refine ih2 (c + 1) _ (by omega) (fun j hj => ?_) (fun j hj => by rw [zpu_k _ _ _ (by omega)]; exact h2 j hj) (fun q hq => by rw [zpu_q _ _ _ hq, h3 q hq])
            by_cases e : j = c
            · subst e; rw [zpu_s, h3 110 (by decide), g2 110 (by decide) (by decide)]; exact hd j (by omega)
            · rw [zpu_k _ _ _ e]; exact h1 j (by omega)
        refine Zp.if_geZ _ k_226_202 rfl (fun c_202 => absurd c_202 (by omega)) (fun c_202 => ?_)
        refine Zp.iconst (nI 0) k_226_205 (by decide) ?_
        refine Zp.istore [some (.ref _), some (.int _), some (.int _), some (.int _), some (.int _), some (.int _), some (.int _), some (.int _), some (.int _), some (.int _), none] k_226_206 (Nat.lt_of_lt_of_eq (zlt rfl : 9 < 11) vl_226.symm) rfl ?_
        exact back 58 0 I2 (by omega) (fun j hj => absurd hj (Nat.not_lt_zero j)) (fun _ _ => rfl) (fun _ _ => rfl)
      have t1 : ∀ a b I2 v, a < sn S → b < sn S → ¬ a = b → (aH A k).2.2 pp = nI a → (aH A k).2.2 (pp + 1) = nI b → canS S → PicM (wK A (stS S a b, (aK A).2)) I2 → FrM I1 I2 → (∀ q, 95 < q → I2 q = I1 q) → 0 ≤ v.toInt → Zp G 226 202 [some (.ref 93), some (.int (nI k)), some (.int (nI lane)), some (.int x), some (.int (nI n)), some (.int (nI 0)), some (.int (nI i)), some (.int (nI i)), some (.int (nI (40 * k + pp))), none, none] [.int v] I2 L Q := by
        intro a b I2 v ha hb hab ex ey hcan pm2 f2 g2 hv
        have o1 := ho1.1.1.1
        have o1' : sn S ≤ 5 := o1
        have ea : ((aH A k).2.2 pp).toInt = a := by rw [ex, nI_toInt (by omega)]
        have eb : ((aH A k).2.2 (pp + 1)).toInt = b := by rw [ey, nI_toInt (by omega)]
        rw [if_pos ⟨⟨by omega, by omega, by omega⟩, hcan⟩, ea, eb, Int.toNat_natCast, Int.toNat_natCast] at rd1
        rw [rd1] at hend hbad
        have ho2 : Ao (wK A (stS S a b, (aK A).2)) := ho1.now (K := (stS S a b, (aK A).2)) (ho1.1.uS (ho1.1.1.st a b) (ho1.1.2.1.st o1 ha hb hab) (stS_n S a b) (by rw [stS_step, stS_noon]; exact hcan.2)) (Kl.uS (stS_n S a b))
        refine Zp.if_geZ _ k_226_202 rfl (fun c_202 => ?_) (fun c_202 => absurd c_202 (by omega))
        refine Zp.iinc (nI (_ + 1)) [some (.ref _), some (.int _), some (.int _), some (.int _), some (.int _), some (.int _), some (.int _), some (.int _), some (.int _), none, none] k_226_241 rfl (nI_1 _) (Nat.lt_of_lt_of_eq (zlt rfl : 6 < 11) vl_226.symm) rfl ?_
        refine Zp.iinc (nI (_ + 1)) [some (.ref _), some (.int _), some (.int _), some (.int _), some (.int _), some (.int _), some (.int _), some (.int _), some (.int _), none, none] k_226_244 rfl (nI_1 _) (Nat.lt_of_lt_of_eq (zlt rfl : 7 < 11) vl_226.symm) rfl ?_
        refine Zp.goto k_226_247 ?_
        exact Zp.locs _ (zle_sub (by simp [zle])) (ih (i + 1) _ I2 (by omega) ((stS_n S a b).trans hsn) pm2 ho2 (fun q h => (f2 q h).trans (f1 q h)) (fun j hj => by rw [g2 110 (by decide)]; exact hd j hj) hend hbad)
      have t2 : Zp G 226 77 [some (.ref 93), some (.int (nI k)), some (.int (nI lane)), some (.int x), some (.int (nI n)), some (.int (nI 0)), some (.int (nI i)), some (.int (nI i)), some (.int (nI 2)), none, none] [] I1 L Q := by
        refine Zp.iload k_226_77 rfl ?_
        refine Zp.iconst (nI 2) k_226_79 (by decide) ?_
        refine Zp.icmp_geN k_226_80 (by omega) (by omega) (fun c_80 => ?_) (fun c_80 => absurd c_80 (by omega))
        refine Zp.iload k_226_164 rfl ?_
        refine Zp.if_neN k_226_166 (by omega) (fun c => absurd c (by decide)) (fun _ => ?_)
        refine Zp.bipush (nI 40) k_226_169 (by decide) ?_
        refine Zp.iload_n k_226_171 rfl ?_
        refine Zp.imulN k_226_172 ?_
        refine Zp.iload_n k_226_173 rfl ?_
        refine Zp.iadd k_226_174 ?_
        refine Zp.iconst (nI 2) k_226_175 (by decide) ?_
        refine Zp.iload k_226_176 rfl ?_
        refine Zp.imulN k_226_178 ?_
        refine Zp.iadd k_226_179 ?_
        rw [ep]
        refine Zp.istore [some (.ref _), some (.int _), some (.int _), some (.int _), some (.int _), some (.int _), some (.int _), some (.int _), some (.int _), none, none] k_226_180 (Nat.lt_of_lt_of_eq (zlt rfl : 8 < 11) vl_226.symm) rfl ?_
        refine Zp.aload_n k_226_182 rfl ?_
        refine Zp.aload_n k_226_183 rfl ?_
        refine Zp.getR k_226_184 rfl (zlt rfl) m_93 r_93_33 ?_
        refine Zp.iload k_226_187 rfl ?_
        refine Zp.iald _ k_226_189 m_109 rfl (by omega) (zlt rfl) c1 ?_
        refine Zp.aload_n k_226_190 rfl ?_
        refine Zp.getR k_226_191 rfl (zlt rfl) m_93 r_93_33 ?_
        refine Zp.iload k_226_194 rfl ?_
        refine Zp.iconst (nI 1) k_226_196 (by decide) ?_
        refine Zp.iaddN k_226_197 ?_
        refine Zp.iald _ k_226_198 m_109 rfl (by omega) (zlt rfl) c2 ?_
        refine Zp.callv2I v_188 k_226_199 m_93 (Nat.le_of_ble_eq_true rfl) (Nat.le_of_ble_eq_true rfl) (c_stirM pm1 ho1 (fun hno I2 v hv pm2 f2 g2 => ⟨_, rfl, t0 I2 v hno hv pm2 f2 g2⟩) (fun a b I2 ha hb hab ex ey hcan pm2 f2 g2 g3 v hv => ⟨_, rfl, t1 a b I2 v ha hb hab ex ey hcan pm2 f2 g2 hv⟩))
        
      refine Zp.iload k_226_62 rfl ?_
      refine Zp.iload k_226_64 rfl ?_
      refine Zp.icmp_geN k_226_66 (by omega) (by omega) (fun c_66 => absurd c_66 (by omega)) (fun c_66 => ?_)
      refine Zp.iload k_226_69 rfl ?_
      refine Zp.if_neN k_226_71 (by omega) (fun c => absurd c (by decide)) (fun _ => ?_)
      refine Zp.iconst (nI 0) k_226_74 (by decide) ?_
      refine Zp.istore [some (.ref _), some (.int _), some (.int _), some (.int _), some (.int _), some (.int _), some (.int _), some (.int _), some (.int _), none, none] k_226_75 (Nat.lt_of_lt_of_eq (zlt rfl : 8 < 11) vl_226.symm) rfl ?_
      exact st 0 0 (by decide) (by rw [if_pos ⟨by omega, by omega⟩]) (st 1 0 (by decide) (by rw [if_pos ⟨by omega, by omega⟩]) t2)
    · have rd1 : rdR (aH A k).2.2 (aH A k).2.1 x.toInt (fuel + 1) i S = (nI i, 2, some S) := if_neg w
      have t3 : ∀ c : Nat, c ≤ 2 → Zp G 226 77 [some (.ref 93), some (.int (nI k)), some (.int (nI lane)), some (.int x), some (.int (nI n)), some (.int (nI 2)), some (.int (nI i)), some (.int (nI i)), some (.int (nI c)), none, none] [] I1 L Q := by
        intro c hc
        refine Zp.iload k_226_77 rfl ?_
        refine Zp.iconst (nI 2) k_226_79 (by decide) ?_
        refine Zp.icmp_geN k_226_80 (by omega) (by omega) (fun c_80 => ?_) (fun c_80 => ?_)
        · refine Zp.iload k_226_164 rfl ?_
          refine Zp.if_neN k_226_166 (by omega) (fun _ => ?_) (fun c => absurd c (by decide))
          refine Zp.iinc (nI (_ + 1)) [some (.ref _), some (.int _), some (.int _), some (.int _), some (.int _), some (.int _), some (.int _), some (.int _), some (.int _), none, none] k_226_244 rfl (nI_1 _) (Nat.lt_of_lt_of_eq (zlt rfl : 7 < 11) vl_226.symm) rfl ?_
          refine Zp.goto k_226_247 ?_
          refine Zp.iload k_226_62 rfl ?_
          refine Zp.iload k_226_64 rfl ?_
          refine Zp.icmp_geN k_226_66 (by omega) (by omega) (fun c_66 => ?_) (fun c_66 => ?_)
          · exact Zp.locs _ (zle_sub (by simp [zle])) (hend _ _ _ (i + 1) I1 rd1 pm1 f1)
          · refine Zp.iload k_226_69 rfl ?_
            refine Zp.if_neN k_226_71 (by omega) (fun _ => ?_) (fun c => absurd c (by decide))
            exact Zp.locs _ (zle_sub (by simp [zle])) (hend _ _ _ (i + 1) I1 rd1 pm1 f1)
        · refine Zp.iload k_226_83 rfl ?_
          refine Zp.if_neN k_226_85 (by omega) (fun _ => ?_) (fun c => absurd c (by decide))
          refine Zp.iload k_226_164 rfl ?_
          refine Zp.if_neN k_226_166 (by omega) (fun _ => ?_) (fun c => absurd c (by decide))
          refine Zp.iinc (nI (_ + 1)) [some (.ref _), some (.int _), some (.int _), some (.int _), some (.int _), some (.int _), some (.int _), some (.int _), some (.int _), none, none] k_226_244 rfl (nI_1 _) (Nat.lt_of_lt_of_eq (zlt rfl : 7 < 11) vl_226.symm) rfl ?_
          refine Zp.goto k_226_247 ?_
          refine Zp.iload k_226_62 rfl ?_
          refine Zp.iload k_226_64 rfl ?_
          refine Zp.icmp_geN k_226_66 (by omega) (by omega) (fun c_66 => ?_) (fun c_66 => ?_)
          · exact Zp.locs _ (zle_sub (by simp [zle])) (hend _ _ _ (i + 1) I1 rd1 pm1 f1)
          · refine Zp.iload k_226_69 rfl ?_
            refine Zp.if_neN k_226_71 (by omega) (fun _ => ?_) (fun c => absurd c (by decide))
            exact Zp.locs _ (zle_sub (by simp [zle])) (hend _ _ _ (i + 1) I1 rd1 pm1 f1)
      by_cases w0 : 0 ≤ x.toInt + 2 * i ∧ x.toInt + 2 * i < (aH A k).2.1
      · refine Zp.iload k_226_62 rfl ?_
        refine Zp.iload k_226_64 rfl ?_
        refine Zp.icmp_geN k_226_66 (by omega) (by omega) (fun c_66 => absurd c_66 (by omega)) (fun c_66 => ?_)
        refine Zp.iload k_226_69 rfl ?_
        refine Zp.if_neN k_226_71 (by omega) (fun c => absurd c (by decide)) (fun _ => ?_)
        refine Zp.iconst (nI 0) k_226_74 (by decide) ?_
        refine Zp.istore [some (.ref _), some (.int _), some (.int _), some (.int _), some (.int _), some (.int _), some (.int _), some (.int _), some (.int _), none, none] k_226_75 (Nat.lt_of_lt_of_eq (zlt rfl : 8 < 11) vl_226.symm) rfl ?_
        exact st 0 0 (by decide) (by rw [if_pos ⟨by omega, by omega⟩]) (st 1 2 (by decide) (by rw [if_neg (by omega)]) (t3 2 (by decide)))
      · refine Zp.iload k_226_62 rfl ?_
        refine Zp.iload k_226_64 rfl ?_
        refine Zp.icmp_geN k_226_66 (by omega) (by omega) (fun c_66 => absurd c_66 (by omega)) (fun c_66 => ?_)
        refine Zp.iload k_226_69 rfl ?_
        refine Zp.if_neN k_226_71 (by omega) (fun c => absurd c (by decide)) (fun _ => ?_)
        refine Zp.iconst (nI 0) k_226_74 (by decide) ?_
        refine Zp.istore [some (.ref _), some (.int _), some (.int _), some (.int _), some (.int _), some (.int _), some (.int _), some (.int _), some (.int _), none, none] k_226_75 (Nat.lt_of_lt_of_eq (zlt rfl : 8 < 11) vl_226.symm) rfl ?_
        exact st 0 2 (by decide) (by rw [if_neg (by omega)]) (t3 1 (by decide))
end READ2
