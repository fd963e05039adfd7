/-! READING A SHEET -/
/-- reading pairs from the i-th on, k at most: how many stirred (or where it broke), the fault met, the soup (none if it broke) -/
def rdR (cl : Nat → Int32) (sz : Nat) (f : Int) : Nat → Nat → zSo → Int32 × Nat × Option zSo
  | 0, i, S => (nI i, 0, some S)
  | k + 1, i, S =>
    if 0 ≤ f + 2 * i ∧ f + 2 * i + 1 < sz then
      if ((0 ≤ (cl (f + 2 * i).toNat).toInt ∧ (cl (f + 2 * i).toNat).toInt < (sn S : Int)) ∧ (0 ≤ (cl ((f + 2 * i).toNat + 1)).toInt ∧ (cl ((f + 2 * i).toNat + 1)).toInt < (sn S : Int)) ∧ ¬ (cl (f + 2 * i).toNat).toInt = (cl ((f + 2 * i).toNat + 1)).toInt) ∧ sset S = 0 ∧ sstep S < snoon S then
        rdR cl sz f k (i + 1) (stS S (cl (f + 2 * i).toNat).toInt.toNat (cl ((f + 2 * i).toNat + 1)).toInt.toNat)
      else ((-20) - nI i, 0, none)
    else (nI i, 2, some S)
theorem zwrap {x : Int32} {j : Nat} (h : j < 100) : (x + nI j).toInt = x.toInt + j ∨ (x + nI j).toInt < 0 := by
  have h1 := fb_rngZ x
  rw [Int32.toInt_add, nI_toInt (by omega)]
  by_cases c : x.toInt + j < 2 ^ 31
  · left
    exact Jvm.Kit.bmod32 (by omega) (by omega)
  · right
    rw [Int.bmod_def]
    omega
section READ1
variable {G : zG} {A : zQs} {I : zI} {L : zJ} {Q : zP}
theorem c_readLoop {q nn sz k lane n : Nat} {x : Int32} {cl : Nat → Int32} (hM : M0[q]? = some (6, nn)) (hR : (q, 1, q + 1) ∈ R0) (hM2 : M0[q + 1]? = some (50, 40)) (h85 : 85 ≤ q) (h91 : q ≤ 91) (hl : I q 0 = nI sz) (hs : sz ≤ 40) (hcl : ∀ j, j < sz → I (q + 1) j = cl j) (hn : n ≤ 12) :
    ∀ fuel i (S : zSo) (I1 : zI), i + fuel = n → So S → sstep S ≤ 12 + i → Sp I1 31 S → (∀ r, r < 31 ∨ 33 < r → I1 r = I r) →
      (∀ v m S' i' I2, rdR cl sz x.toInt fuel i S = (v, m, some S') → Sp I2 31 S' → (∀ r, r < 31 ∨ 33 < r → I2 r = I r) → Zp G 126 170 [some (.ref 0), some (.int (nI k)), some (.int (nI lane)), some (.int x), some (.int (nI n)), some (.ref q), some (.int (nI m)), some (.int v), some (.int (nI i')), none] [] I2 L Q) →
      (∀ v m I2, rdR cl sz x.toInt fuel i S = (v, m, none) → (∀ r, r < 31 ∨ 33 < r → I2 r = I r) → Q (some (.int v)) I2 L) →
      Zp G 126 76 [some (.ref 0), some (.int (nI k)), some (.int (nI lane)), some (.int x), some (.int (nI n)), some (.ref q), some (.int (nI 0)), some (.int (nI i)), some (.int (nI i)), none] [] I1 L Q := by
  intro fuel
  induction fuel with
  | zero =>
    intro i S I1 hi ho hst hs1 f1 hend hbad
    have e : i = n := by omega
    subst e
    refine Zp.iload k_126_76 rfl ?_
    refine Zp.iload k_126_78 rfl ?_
    refine Zp.icmp_geN k_126_80 (by omega) (by omega) (fun c_80 => ?_) (fun c_80 => absurd c_80 (by omega))
    exact hend _ _ _ _ I1 rfl hs1 f1
  | succ fuel ih =>
    intro i S I1 hi ho hst hs1 f1 hend hbad
    have hl1 : I1 q 0 = nI sz := by rw [f1 q (by omega)]; exact hl
    have wr := zwrap (x := x) (j := 2 * i) (by omega)
    have wr1 := zwrap (x := x + nI (2 * i)) (j := 1) (by omega)
    have xr := fb_rngZ x
    have lcN : ∀ (v1 v2 v3 v4 v5 v6 v7 v8 v9 v0 : Value) (j : Nat) (u : Value), ([some v1, some v2, some v3, some v4, some v5, some v6, some v7, some v8, some v9, none] : List (Option Value))[j]? = some (some u) → ([some v1, some v2, some v3, some v4, some v5, some v6, some v7, some v8, some v9, some v0] : List (Option Value))[j]? = some (some u) := by
      intro v1 v2 v3 v4 v5 v6 v7 v8 v9 v0 j u hj
      match j, hj with
      | 0, hj => exact hj
      | 1, hj => exact hj
      | 2, hj => exact hj
      | 3, hj => exact hj
      | 4, hj => exact hj
      | 5, hj => exact hj
      | 6, hj => exact hj
      | 7, hj => exact hj
      | 8, hj => exact hj
      | 9, hj => exact absurd hj (by simp)
      | _ + 10, hj => exact absurd hj (by simp)
    by_cases w : 0 ≤ x.toInt + 2 * i ∧ x.toInt + 2 * i + 1 < sz
    · obtain ⟨pp, hpp⟩ : ∃ pp : Nat, (x.toInt + 2 * i).toNat = pp := ⟨_, rfl⟩
      have e1 : (x + nI (2 * i)).toInt = x.toInt + 2 * i := by
        rcases wr with z | z
        · rw [z]; omega
        · rw [Int32.toInt_add, nI_toInt (by omega)] at z ⊢
          exact Jvm.Kit.bmod32 (by omega) (by omega)
      have ep : x + nI (2 * i) = nI pp := by
        rw [z_nI (x := x + nI (2 * i)) (by omega), e1, hpp]
      have rd1 : rdR cl sz x.toInt (fuel + 1) i S = if ((0 ≤ (cl pp).toInt ∧ (cl pp).toInt < (sn S : Int)) ∧ (0 ≤ (cl (pp + 1)).toInt ∧ (cl (pp + 1)).toInt < (sn S : Int)) ∧ ¬ (cl pp).toInt = (cl (pp + 1)).toInt) ∧ sset S = 0 ∧ sstep S < snoon S then rdR cl sz x.toInt fuel (i + 1) (stS S (cl pp).toInt.toNat (cl (pp + 1)).toInt.toNat) else ((-20) - nI i, 0, none) := by
        rw [← hpp]
        exact if_pos w
      have c1 : I1 (q + 1) pp = cl pp := by rw [f1 (q + 1) (by omega)]; exact hcl pp (by omega)
      have c2 : I1 (q + 1) (pp + 1) = cl (pp + 1) := by rw [f1 (q + 1) (by omega)]; exact hcl (pp + 1) (by omega)
      have en1 : (nI pp).toInt = pp := nI_toInt (by omega)
      have en2 : (nI (pp + 1)).toInt = ((pp + 1 : Nat) : Int) := nI_toInt (by omega)
      have t0 : ¬ (((0 ≤ (cl pp).toInt ∧ (cl pp).toInt < (sn S : Int)) ∧ (0 ≤ (cl (pp + 1)).toInt ∧ (cl (pp + 1)).toInt < (sn S : Int)) ∧ ¬ (cl pp).toInt = (cl (pp + 1)).toInt) ∧ sset S = 0 ∧ sstep S < snoon S) → Zp G 126 149 [some (.ref 0), some (.int (nI k)), some (.int (nI lane)), some (.int x), some (.int (nI n)), some (.ref q), some (.int (nI 0)), some (.int (nI i)), some (.int (nI i)), some (.int (nI pp))] [.int (nI 0)] I1 L Q := by
        intro h9
        refine Zp.if_eqN k_126_149 (by omega) (fun _ => ?_) (fun c => absurd c (by decide))
        refine Zp.bipush (-20) k_126_158 (by decide) ?_
        refine Zp.iload k_126_160 rfl ?_
        refine Zp.isub k_126_162 ?_
        refine Zp.iret _ k_126_163 vr_126 rfl ?_
        exact hbad _ _ I1 (by rw [rd1, if_neg h9]) f1
      have t1 : ∀ a b I2, a < sn S → b < sn S → ¬ a = b → cl pp = nI a → cl (pp + 1) = nI b → sset S = 0 → sstep S < snoon S → Sp I2 31 (stS S a b) → (∀ q, q ≠ 31 → q ≠ 31 + 2 → I2 q = I1 q) → Zp G 126 149 [some (.ref 0), some (.int (nI k)), some (.int (nI lane)), some (.int x), some (.int (nI n)), some (.ref q), some (.int (nI 0)), some (.int (nI i)), some (.int (nI i)), some (.int (nI pp))] [.int (nI 1)] I2 L Q := by
        intro a b I2 ha hb hab ex ey hz hlt hs2 f2
        have o1 := ho.1
        have ea : (cl pp).toInt = a := by rw [ex, nI_toInt (by omega)]
        have eb : (cl (pp + 1)).toInt = b := by rw [ey, nI_toInt (by omega)]
        rw [if_pos ⟨⟨by omega, by omega, by omega⟩, hz, hlt⟩, ea, eb, Int.toNat_natCast, Int.toNat_natCast] at rd1
        rw [rd1] at hend hbad
        refine Zp.if_eqN k_126_149 (by omega) (fun c => absurd c (by decide)) (fun _ => ?_)
        refine Zp.iinc (nI (_ + 1)) [some (.ref _), some (.int _), some (.int _), some (.int _), some (.int _), some (.ref _), some (.int _), some (.int _), some (.int _), some (.int _)] k_126_152 rfl (nI_1 _) (Nat.lt_of_lt_of_eq (zlt rfl : 7 < 10) vl_126.symm) rfl ?_
        refine Zp.goto k_126_155 ?_
        refine Zp.iinc (nI (_ + 1)) [some (.ref _), some (.int _), some (.int _), some (.int _), some (.int _), some (.ref _), some (.int _), some (.int _), some (.int _), some (.int _)] k_126_164 rfl (nI_1 _) (Nat.lt_of_lt_of_eq (zlt rfl : 8 < 10) vl_126.symm) rfl ?_
        refine Zp.goto k_126_167 ?_
        exact Zp.locs _ (lcN _ _ _ _ _ _ _ _ _ _) (ih (i + 1) _ I2 (by omega) (ho.st a b) (by rw [stS_step]; omega) hs2 (fun r h => (f2 r (by omega) (by omega)).trans (f1 r h)) hend hbad)
      refine Zp.iload k_126_76 rfl ?_
      refine Zp.iload k_126_78 rfl ?_
      refine Zp.icmp_geN k_126_80 (by omega) (by omega) (fun c_80 => absurd c_80 (by omega)) (fun c_80 => ?_)
      refine Zp.iload k_126_83 rfl ?_
      refine Zp.if_neN k_126_85 (by omega) (fun c_85 => ?_) (fun c_85 => ?_)
      · exact absurd rfl c_85
      · refine Zp.iload_n k_126_88 rfl ?_
        refine Zp.iconst (nI 2) k_126_89 (by decide) ?_
        refine Zp.iload k_126_90 rfl ?_
        refine Zp.imulN k_126_92 ?_
        refine Zp.iadd k_126_93 ?_
        rw [ep]
        refine Zp.istore [some (.ref _), some (.int _), some (.int _), some (.int _), some (.int _), some (.ref _), some (.int _), some (.int _), some (.int _), some (.int _)] k_126_94 (Nat.lt_of_lt_of_eq (zlt rfl : 9 < 10) vl_126.symm) rfl ?_
        refine Zp.aload (by omega) k_126_96 rfl ?_
        refine Zp.iload k_126_98 rfl ?_
        refine Zp.callv1I v_43 k_126_100 hM (Nat.le_of_ble_eq_true rfl) (Nat.le_of_ble_eq_true rfl) (c_has6 hM hl1 (by omega) ⟨_, rfl, ?_⟩)
        refine Zp.if_eqB k_126_103 (fun c_103 => absurd c_103 (by omega)) (fun c_103 => ?_)
        refine Zp.aload (by omega) k_126_106 rfl ?_
        refine Zp.iload k_126_108 rfl ?_
        refine Zp.iconst (nI 1) k_126_110 (by decide) ?_
        refine Zp.iaddN k_126_111 ?_
        refine Zp.callv1I v_43 k_126_112 hM (Nat.le_of_ble_eq_true rfl) (Nat.le_of_ble_eq_true rfl) (c_has6 hM hl1 (by omega) ⟨_, rfl, ?_⟩)
        refine Zp.if_neB k_126_115 (fun c_115 => ?_) (fun c_115 => absurd c_115 (by omega))
        refine Zp.aload_n k_126_124 rfl ?_
        refine Zp.getR k_126_125 rfl (zlt rfl) m_0 r_0_5 ?_
        refine Zp.aload (by omega) k_126_128 rfl ?_
        refine Zp.getR k_126_130 rfl (zlt rfl) hM hR ?_
        refine Zp.iload k_126_133 rfl ?_
        refine Zp.iald _ k_126_135 hM2 rfl (by omega) (zlt rfl) c1 ?_
        refine Zp.aload (by omega) k_126_136 rfl ?_
        refine Zp.getR k_126_138 rfl (zlt rfl) hM hR ?_
        refine Zp.iload k_126_141 rfl ?_
        refine Zp.iconst (nI 1) k_126_143 (by decide) ?_
        refine Zp.iaddN k_126_144 ?_
        refine Zp.iald _ k_126_145 hM2 rfl (by omega) (zlt rfl) c2 ?_
        refine Zp.callv2I v_65 k_126_146 m_31 (Nat.le_of_ble_eq_true rfl) (Nat.le_of_ble_eq_true rfl) (c_stirsIfMay sa_31 hs1 ho (by omega) (fun h9 => ⟨_, rfl, t0 h9⟩) (fun a b I2 ha hb hab ex ey hz hlt hs2 f2 => ⟨_, rfl, t1 a b I2 ha hb hab ex ey hz hlt hs2 f2⟩))
        
    · have rd1 : rdR cl sz x.toInt (fuel + 1) i S = (nI i, 2, some S) := if_neg w
      refine Zp.iload k_126_76 rfl ?_
      refine Zp.iload k_126_78 rfl ?_
      refine Zp.icmp_geN k_126_80 (by omega) (by omega) (fun c_80 => ?_) (fun c_80 => ?_)
      · first | exact Zp.locs _ (lcN _ _ _ _ _ _ _ _ _ _) (hend _ _ _ _ I1 rd1 hs1 f1) | (exfalso; omega)
      · refine Zp.iload k_126_83 rfl ?_
        refine Zp.if_neN k_126_85 (by omega) (fun c_85 => ?_) (fun c_85 => ?_)
        · first | exact Zp.locs _ (lcN _ _ _ _ _ _ _ _ _ _) (hend _ _ _ _ I1 rd1 hs1 f1) | (exfalso; omega)
        · refine Zp.iload_n k_126_88 rfl ?_
          refine Zp.iconst (nI 2) k_126_89 (by decide) ?_
          refine Zp.iload k_126_90 rfl ?_
          refine Zp.imulN k_126_92 ?_
          refine Zp.iadd k_126_93 ?_
          refine Zp.istore [some (.ref _), some (.int _), some (.int _), some (.int _), some (.int _), some (.ref _), some (.int _), some (.int _), some (.int _), some (.int _)] k_126_94 (Nat.lt_of_lt_of_eq (zlt rfl : 9 < 10) vl_126.symm) rfl ?_
          refine Zp.aload (by omega) k_126_96 rfl ?_
          refine Zp.iload k_126_98 rfl ?_
          refine Zp.callv1I v_43 k_126_100 hM (Nat.le_of_ble_eq_true rfl) (Nat.le_of_ble_eq_true rfl) (c_has6 hM hl1 (by omega) ⟨_, rfl, ?_⟩)
          refine Zp.if_eqB k_126_103 (fun c_103 => ?_) (fun c_103 => ?_)
          · refine Zp.iconst (nI 2) k_126_118 (by decide) ?_
            refine Zp.istore [some (.ref _), some (.int _), some (.int _), some (.int _), some (.int _), some (.ref _), some (.int _), some (.int _), some (.int _), some (.int _)] k_126_119 (Nat.lt_of_lt_of_eq (zlt rfl : 6 < 10) vl_126.symm) rfl ?_
            refine Zp.goto k_126_121 ?_
            refine Zp.iinc (nI (_ + 1)) [some (.ref _), some (.int _), some (.int _), some (.int _), some (.int _), some (.ref _), some (.int _), some (.int _), some (.int _), some (.int _)] k_126_164 rfl (nI_1 _) (Nat.lt_of_lt_of_eq (zlt rfl : 8 < 10) vl_126.symm) rfl ?_
            refine Zp.goto k_126_167 ?_
            refine Zp.iload k_126_76 rfl ?_
            refine Zp.iload k_126_78 rfl ?_
            refine Zp.icmp_geN k_126_80 (by omega) (by omega) (fun c_80 => ?_) (fun c_80 => ?_)
            · first | exact Zp.locs _ (lcN _ _ _ _ _ _ _ _ _ _) (hend _ _ _ _ I1 rd1 hs1 f1) | (exfalso; omega)
            · refine Zp.iload k_126_83 rfl ?_
              refine Zp.if_neN k_126_85 (by omega) (fun _ => ?_) (fun c => absurd c (by decide))
              first | exact Zp.locs _ (lcN _ _ _ _ _ _ _ _ _ _) (hend _ _ _ _ I1 rd1 hs1 f1) | (exfalso; omega)
          · refine Zp.aload (by omega) k_126_106 rfl ?_
            refine Zp.iload k_126_108 rfl ?_
            refine Zp.iconst (nI 1) k_126_110 (by decide) ?_
            refine Zp.iadd k_126_111 ?_
            refine Zp.callv1I v_43 k_126_112 hM (Nat.le_of_ble_eq_true rfl) (Nat.le_of_ble_eq_true rfl) (c_has6 hM hl1 (by omega) ⟨_, rfl, ?_⟩)
            refine Zp.if_neB k_126_115 (fun c_115 => ?_) (fun c_115 => ?_)
            · exfalso
              have w1 : ¬ (0 ≤ x.toInt + 2 * i ∧ x.toInt + 2 * i + 1 < sz) := w
              omega
            · refine Zp.iconst (nI 2) k_126_118 (by decide) ?_
              refine Zp.istore [some (.ref _), some (.int _), some (.int _), some (.int _), some (.int _), some (.ref _), some (.int _), some (.int _), some (.int _), some (.int _)] k_126_119 (Nat.lt_of_lt_of_eq (zlt rfl : 6 < 10) vl_126.symm) rfl ?_
              refine Zp.goto k_126_121 ?_
              refine Zp.iinc (nI (_ + 1)) [some (.ref _), some (.int _), some (.int _), some (.int _), some (.int _), some (.ref _), some (.int _), some (.int _), some (.int _), some (.int _)] k_126_164 rfl (nI_1 _) (Nat.lt_of_lt_of_eq (zlt rfl : 8 < 10) vl_126.symm) rfl ?_
              refine Zp.goto k_126_167 ?_
              refine Zp.iload k_126_76 rfl ?_
              refine Zp.iload k_126_78 rfl ?_
              refine Zp.icmp_geN k_126_80 (by omega) (by omega) (fun c_80 => ?_) (fun c_80 => ?_)
              · first | exact Zp.locs _ (lcN _ _ _ _ _ _ _ _ _ _) (hend _ _ _ _ I1 rd1 hs1 f1) | (exfalso; omega)
              · refine Zp.iload k_126_83 rfl ?_
                refine Zp.if_neN k_126_85 (by omega) (fun _ => ?_) (fun c => absurd c (by decide))
                first | exact Zp.locs _ (lcN _ _ _ _ _ _ _ _ _ _) (hend _ _ _ _ I1 rd1 hs1 f1) | (exfalso; omega)
end READ1
