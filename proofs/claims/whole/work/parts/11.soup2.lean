/-! SOUPS: stirring, forgiving, sums, copies -/
theorem nI01 {x : Nat} (h : x ≤ 1) : nI x = 0 ∨ nI x = 1 := by
  rcases (by omega : x = 0 ∨ x = 1) with e | e <;> rw [e]
  · exact Or.inl rfl
  · exact Or.inr rfl
def sUht (S : zSo) (f : Nat → Nat) : zSo := (sn S, sneed S, snoon S, sstep S, sdone S, sset S, skd S, f)
/-- all that a helper hates is 0 -/
def fgS (S : zSo) (a : Nat) : zSo := sUht S (fun j => if a * 5 ≤ j ∧ j < a * 5 + 5 then 0 else sht S j)
def fgC (S : zSo) (a : Nat) : Nat → Nat
  | 0 => 0
  | i + 1 => fgC S a i + if 0 < sht S (a * 5 + i) then 1 else 0
theorem fgC_le (S : zSo) (a : Nat) : ∀ i, fgC S a i ≤ i
  | 0 => Nat.le_refl 0
  | i + 1 => by
    have := fgC_le S a i
    unfold fgC
    split <;> omega
/-- nobody hates one who isn't there, nor oneself; who isn't there hates nobody -/
def Sz (S : zSo) : Prop := ∀ a b, a < 5 → b < 5 → (sn S ≤ a ∨ sn S ≤ b ∨ a = b) → sht S (a * 5 + b) = 0
def sm (f : Nat → Nat) : Nat → Nat
  | 0 => 0
  | n + 1 => sm f n + f n
theorem sm_le {f : Nat → Nat} {m : Nat} (h : ∀ i, f i ≤ m) : ∀ n, sm f n ≤ m * n
  | 0 => Nat.zero_le _
  | n + 1 => by
    have h1 := sm_le h n
    have h2 := h n
    unfold sm
    rw [Nat.mul_succ]
    omega
section SOUP2
variable {G : zG} {h h2 : Nat} {I : zI} {L : zJ} {Q : zP} {S : zSo}
theorem c_stirOnce {a b : Nat} (hs : Sa h) (hp : Sp I h S) (ho : So S) (hst : sstep S < 2 ^ 30) (ha : a < sn S) (hb : b < sn S) (hq : ∀ I', Sp I' h (stS S a b) → (∀ q, q ≠ h → q ≠ h + 2 → I' q = I q) → Q none I' L) : Zm G 63 [.ref h, .int (nI a), .int (nI b)] I L Q := by
  have tail : ∀ (I1 : zI) (S1 : zSo), Sp I1 h S1 → So S1 → sstep S1 < 2 ^ 30 → sn S1 = sn S → (∀ q, q ≠ h → q ≠ h + 2 → I1 q = I q) → sUstep (coS (coS S1 a b) b a) = stS S a b → Zp G 63 47 [some (.ref h), some (.int (nI a)), some (.int (nI b))] [] I1 L Q := by
    intro I1 S1 hp1 ho1 hst1 hn1 hf1 he
    refine Zp.aload_n k_63_47 rfl ?_
    refine Zp.iload_n k_63_48 rfl ?_
    refine Zp.iload_n k_63_49 rfl ?_
    refine Zp.callv2V v_64 k_63_50 hs.1 (Nat.le_of_ble_eq_true rfl) (Nat.le_of_ble_eq_true rfl) (c_cool hs hp1 ho1 hst1 (by omega) (by omega) (fun I2 hp2 hf2 => ⟨rfl, ?_⟩))
    refine Zp.aload_n k_63_53 rfl ?_
    refine Zp.iload_n k_63_54 rfl ?_
    refine Zp.iload_n k_63_55 rfl ?_
    refine Zp.callv2V v_64 k_63_56 hs.1 (Nat.le_of_ble_eq_true rfl) (Nat.le_of_ble_eq_true rfl) (c_cool hs hp2 (ho1.co a b) hst1 (by show b < sn S1; omega) (by show a < sn S1; omega) (fun I3 hp3 hf3 => ⟨rfl, ?_⟩))
    refine Zp.aload_n k_63_59 rfl ?_
    refine Zp.dup k_63_60 rfl ?_
    refine Zp.getV k_63_61 rfl (zlt rfl) hs.1 hp3.2.2.2.1 ?_
    refine Zp.iconst (nI 1) k_63_64 (by decide) ?_
    refine Zp.iaddN k_63_65 ?_
    refine Zp.putI k_63_66 rfl (zlt rfl) hs.1 ?_
    refine Zp.vret k_63_69 vr_63 ?_
    exact hq _ (he ▸ hp3.ustep) (fun q h1 h2 => by rw [zpu_q _ _ _ h1, hf3 q h2, hf2 q h2, hf1 q h1 h2])
  obtain ⟨o1, o2, o3, o4, o5, o6, o7⟩ := id ho
  have hj := o7 (a * 5 + b)
  have hj2 := o7 (b * 5 + a)
  have ht := tn_le ho a b
  refine Zm.go [some (.ref _), some (.int _), some (.int _)] vl_63 rfl ?_
  refine Zp.aload_n k_63_0 rfl ?_
  refine Zp.iload_n k_63_1 rfl ?_
  refine Zp.iload_n k_63_2 rfl ?_
  refine Zp.callv2I v_58 k_63_3 hs.1 (Nat.le_of_ble_eq_true rfl) (Nat.le_of_ble_eq_true rfl) (c_hatredOf hs hp (by omega) (by omega) ⟨_, rfl, ?_⟩)
  refine Zp.if_neN k_63_6 (by omega) (fun c_6 => ?_) (fun c_6 => ?_)
  · refine Zp.aload_n k_63_26 rfl ?_
    refine Zp.sipush (nI 999) k_63_27 (by decide) ?_
    refine Zp.aload_n k_63_30 rfl ?_
    refine Zp.getV k_63_31 rfl (zlt rfl) hs.1 hp.2.2.2.2.1 ?_
    refine Zp.aload_n k_63_34 rfl ?_
    refine Zp.iload_n k_63_35 rfl ?_
    refine Zp.iload_n k_63_36 rfl ?_
    refine Zp.callv2I v_61 k_63_37 hs.1 (Nat.le_of_ble_eq_true rfl) (Nat.le_of_ble_eq_true rfl) (c_turnOf hs hp ho ha hb ⟨_, rfl, ?_⟩)
    refine Zp.iaddN k_63_40 ?_
    refine Zp.mminN k_63_41 (Nat.le_of_ble_eq_true rfl) (by omega) (by omega) ?_
    refine Zp.putI k_63_44 rfl (zlt rfl) hs.1 ?_
    first | exact tail _ _ hp.uset ho.uset hst rfl (fun q h1 h2 => zpu_q _ _ _ h1) (by unfold stS; rw [if_pos ⟨c_6, c_15⟩]) | exact tail _ _ hp.udone (ho.udone (Nat.min_le_left _ _)) hst rfl (fun q h1 h2 => zpu_q _ _ _ h1) (by unfold stS; rw [if_neg (by omega)])
  · refine Zp.aload_n k_63_9 rfl ?_
    refine Zp.iload_n k_63_10 rfl ?_
    refine Zp.iload_n k_63_11 rfl ?_
    refine Zp.callv2I v_58 k_63_12 hs.1 (Nat.le_of_ble_eq_true rfl) (Nat.le_of_ble_eq_true rfl) (c_hatredOf hs hp (by omega) (by omega) ⟨_, rfl, ?_⟩)
    refine Zp.if_neN k_63_15 (by omega) (fun c_15 => ?_) (fun c_15 => ?_)
    · refine Zp.aload_n k_63_26 rfl ?_
      refine Zp.sipush (nI 999) k_63_27 (by decide) ?_
      refine Zp.aload_n k_63_30 rfl ?_
      refine Zp.getV k_63_31 rfl (zlt rfl) hs.1 hp.2.2.2.2.1 ?_
      refine Zp.aload_n k_63_34 rfl ?_
      refine Zp.iload_n k_63_35 rfl ?_
      refine Zp.iload_n k_63_36 rfl ?_
      refine Zp.callv2I v_61 k_63_37 hs.1 (Nat.le_of_ble_eq_true rfl) (Nat.le_of_ble_eq_true rfl) (c_turnOf hs hp ho ha hb ⟨_, rfl, ?_⟩)
      refine Zp.iaddN k_63_40 ?_
      refine Zp.mminN k_63_41 (Nat.le_of_ble_eq_true rfl) (by omega) (by omega) ?_
      refine Zp.putI k_63_44 rfl (zlt rfl) hs.1 ?_
      first | exact tail _ _ hp.uset ho.uset hst rfl (fun q h1 h2 => zpu_q _ _ _ h1) (by unfold stS; rw [if_pos ⟨c_6, c_15⟩]) | exact tail _ _ hp.udone (ho.udone (Nat.min_le_left _ _)) hst rfl (fun q h1 h2 => zpu_q _ _ _ h1) (by unfold stS; rw [if_neg (by omega)])
    · refine Zp.aload_n k_63_18 rfl ?_
      refine Zp.iconst (nI 1) k_63_19 (by decide) ?_
      refine Zp.putZ k_63_20 rfl (zlt rfl) (by decide) hs.1 ?_
      refine Zp.goto k_63_23 ?_
      first | exact tail _ _ hp.uset ho.uset hst rfl (fun q h1 h2 => zpu_q _ _ _ h1) (by unfold stS; rw [if_pos ⟨c_6, c_15⟩]) | exact tail _ _ hp.udone (ho.udone (Nat.min_le_left _ _)) hst rfl (fun q h1 h2 => zpu_q _ _ _ h1) (by unfold stS; rw [if_neg (by omega)])
/-- two stir if they may, whatever is asked -/
theorem c_stirsIfMay {x y : Int32} (hs : Sa h) (hp : Sp I h S) (ho : So S) (hst : sstep S < 2 ^ 30)
    (hno : ¬ (((0 ≤ x.toInt ∧ x.toInt < (sn S : Int)) ∧ (0 ≤ y.toInt ∧ y.toInt < (sn S : Int)) ∧ ¬ x.toInt = y.toInt) ∧ sset S = 0 ∧ sstep S < snoon S) → Q (some (.int (nI 0))) I L)
    (hyes : ∀ a b I', a < sn S → b < sn S → ¬ a = b → x = nI a → y = nI b → sset S = 0 → sstep S < snoon S → Sp I' h (stS S a b) → (∀ q, q ≠ h → q ≠ h + 2 → I' q = I q) → Q (some (.int (nI 1))) I' L) : Zm G 65 [.ref h, .int x, .int y] I L Q := by
  obtain ⟨o1, o2, o3, o4, o5, o6, o7⟩ := id ho
  refine Zm.go [some (.ref _), some (.int _), some (.int _), none] vl_65 rfl ?_
  refine Zp.aload_n k_65_0 rfl ?_
  refine Zp.iload_n k_65_1 rfl ?_
  refine Zp.iload_n k_65_2 rfl ?_
  refine Zp.callv2I v_57 k_65_3 hs.1 (Nat.le_of_ble_eq_true rfl) (Nat.le_of_ble_eq_true rfl) (c_areTwo hs hp ho ⟨_, rfl, ?_⟩)
  refine Zp.if_eqB k_65_6 (fun c_6 => ?_) (fun c_6 => ?_)
  · refine Zp.iconst (nI 0) k_65_20 (by decide) ?_
    refine Zp.istore_n [some (.ref _), some (.int _), some (.int _), some (.int _)] k_65_21 (Nat.lt_of_lt_of_eq (zlt rfl : 3 < 4) vl_65.symm) rfl ?_
    refine Zp.iload_n k_65_22 rfl ?_
    refine Zp.if_eqN k_65_23 (by omega) (fun _ => ?_) (fun c => absurd c (by decide))
    refine Zp.iload_n k_65_32 rfl ?_
    refine Zp.iret _ k_65_33 vr_65 rfl ?_
    first | exact hno (fun z => c_6 z.1) | exact hno (fun z => c_13 z.2) | exact hyes _ _ _ ha hb (by omega) rfl rfl c_13.1 c_13.2 hp2 hf2
  · refine Zp.aload_n k_65_9 rfl ?_
    refine Zp.callv0I v_62 k_65_10 hs.1 (Nat.le_of_ble_eq_true rfl) (Nat.le_of_ble_eq_true rfl) (c_canBeStirred hs hp ho hst ⟨_, rfl, ?_⟩)
    refine Zp.if_eqB k_65_13 (fun c_13 => ?_) (fun c_13 => ?_)
    · refine Zp.iconst (nI 0) k_65_20 (by decide) ?_
      refine Zp.istore_n [some (.ref _), some (.int _), some (.int _), some (.int _)] k_65_21 (Nat.lt_of_lt_of_eq (zlt rfl : 3 < 4) vl_65.symm) rfl ?_
      refine Zp.iload_n k_65_22 rfl ?_
      refine Zp.if_eqN k_65_23 (by omega) (fun _ => ?_) (fun c => absurd c (by decide))
      refine Zp.iload_n k_65_32 rfl ?_
      refine Zp.iret _ k_65_33 vr_65 rfl ?_
      first | exact hno (fun z => c_6 z.1) | exact hno (fun z => c_13 z.2) | exact hyes _ _ _ ha hb (by omega) rfl rfl c_13.1 c_13.2 hp2 hf2
    · refine Zp.iconst (nI 1) k_65_16 (by decide) ?_
      refine Zp.goto k_65_17 ?_
      refine Zp.istore_n [some (.ref _), some (.int _), some (.int _), some (.int _)] k_65_21 (Nat.lt_of_lt_of_eq (zlt rfl : 3 < 4) vl_65.symm) rfl ?_
      refine Zp.iload_n k_65_22 rfl ?_
      refine Zp.if_eqN k_65_23 (by omega) (fun c => absurd c (by decide)) (fun _ => ?_)
      obtain ⟨a, ha, rfl, ea⟩ := zin_nI c_6.1.1 c_6.1.2
      obtain ⟨b, hb, rfl, eb⟩ := zin_nI c_6.2.1.1 c_6.2.1.2
      refine Zp.aload_n k_65_26 rfl ?_
      refine Zp.iload_n k_65_27 rfl ?_
      refine Zp.iload_n k_65_28 rfl ?_
      refine Zp.callv2V v_63 k_65_29 hs.1 (Nat.le_of_ble_eq_true rfl) (Nat.le_of_ble_eq_true rfl) (c_stirOnce hs hp ho hst (by omega) (by omega) (fun I2 hp2 hf2 => ⟨rfl, ?_⟩))
      refine Zp.iload_n k_65_32 rfl ?_
      refine Zp.iret _ k_65_33 vr_65 rfl ?_
      first | exact hno (fun z => c_6 z.1) | exact hno (fun z => c_13 z.2) | exact hyes _ _ _ ha hb (by omega) rfl rfl c_13.1 c_13.2 hp2 hf2
theorem c_allHatred (hs : Sa h) (hp : Sp I h S) (ho : So S) (hq : Q (some (.int (nI (sm (sht S) 25)))) I L) : Zm G 67 [.ref h] I L Q := by
  have loop : ∀ n i, i + n = 25 → Zp G 67 4 [some (.ref h), some (.int (nI (sm (sht S) i))), some (.int (nI i))] [] I L Q := by
    intro n
    induction n with
    | zero =>
      intro i hi
      have e : i = 25 := by omega
      subst e
      refine Zp.iload_n k_67_4 rfl ?_
      refine Zp.aload_n k_67_5 rfl ?_
      refine Zp.getR k_67_6 rfl (zlt rfl) hs.1 hs.2.2.2.2 ?_
      refine Zp.alen k_67_9 hs.2.2.1 (Nat.le_of_ble_eq_true rfl) ?_
      refine Zp.icmp_geN k_67_10 (by omega) (by omega) (fun c_10 => ?_) (fun c_10 => absurd (by omega) c_10)
      refine Zp.iload_n k_67_28 rfl ?_
      refine Zp.iret _ k_67_29 vr_67 rfl ?_
      exact hq
    | succ n ih =>
      intro i hi
      refine Zp.iload_n k_67_4 rfl ?_
      refine Zp.aload_n k_67_5 rfl ?_
      refine Zp.getR k_67_6 rfl (zlt rfl) hs.1 hs.2.2.2.2 ?_
      refine Zp.alen k_67_9 hs.2.2.1 (Nat.le_of_ble_eq_true rfl) ?_
      refine Zp.icmp_geN k_67_10 (by omega) (by omega) (fun c_10 => absurd c_10 (by omega)) (fun c_10 => ?_)
      refine Zp.iload_n k_67_13 rfl ?_
      refine Zp.aload_n k_67_14 rfl ?_
      refine Zp.getR k_67_15 rfl (zlt rfl) hs.1 hs.2.2.2.2 ?_
      refine Zp.iload_n k_67_18 rfl ?_
      refine Zp.iald _ k_67_19 hs.2.2.1 rfl (by omega) (zlt rfl) (hp.2.2.2.2.2.2.2 _ (by omega)) ?_
      refine Zp.iaddN k_67_20 ?_
      refine Zp.istore_n [some (.ref _), some (.int _), some (.int _)] k_67_21 (Nat.lt_of_lt_of_eq (zlt rfl : 1 < 3) vl_67.symm) rfl ?_
      refine Zp.iinc (nI (_ + 1)) [some (.ref _), some (.int _), some (.int _)] k_67_22 rfl (nI_1 _) (Nat.lt_of_lt_of_eq (zlt rfl : 2 < 3) vl_67.symm) rfl ?_
      refine Zp.goto k_67_25 ?_
      exact ih (i + 1) (by omega)
  refine Zm.go [some (.ref _), none, none] vl_67 rfl ?_
  refine Zp.iconst (nI 0) k_67_0 (by decide) ?_
  refine Zp.istore_n [some (.ref _), some (.int _), none] k_67_1 (Nat.lt_of_lt_of_eq (zlt rfl : 1 < 3) vl_67.symm) rfl ?_
  refine Zp.iconst (nI 0) k_67_2 (by decide) ?_
  refine Zp.istore_n [some (.ref _), some (.int _), some (.int _)] k_67_3 (Nat.lt_of_lt_of_eq (zlt rfl : 2 < 3) vl_67.symm) rfl ?_
  exact loop 25 0 rfl
theorem So.uht {f : Nat → Nat} (ho : So S) (hf : ∀ j, f j ≤ 9) : So (sUht S f) := ⟨ho.1, ho.2.1, ho.2.2.1, ho.2.2.2.1, ho.2.2.2.2.1, ho.2.2.2.2.2.1, hf⟩
theorem Sp.uht2 {T : zSo} (hp : Sp I h T) {S : zSo} {g : Nat → Nat} (hfg : ∀ j, sht T j = g j) (hT : sUht T g = sUht S g := by rfl) : Sp I h (sUht S g) := by
  rw [← hT, show g = sht T from funext fun j => (hfg j).symm]
  exact hp
theorem Sp.uht {f g : Nat → Nat} (hp : Sp I h (sUht S f)) (hfg : ∀ j, f j = g j) : Sp I h (sUht S g) := by
  rw [show g = f from funext fun j => (hfg j).symm]
  exact hp
theorem c_forgiveAll {a : Nat} (hs : Sa h) (hp : Sp I h S) (ho : So S) (hz : Sz S) (ha : a < sn S) (hq : ∀ I', Sp I' h (fgS S a) → (∀ q, q ≠ h + 2 → I' q = I q) → Q (some (.int (nI (fgC S a 5)))) I' L) : Zm G 66 [.ref h, .int (nI a)] I L Q := by
  obtain ⟨o1, o2, o3, o4, o5, o6, o7⟩ := id ho
  have loop : ∀ n i (I1 : zI), i + n = sn S → Sp I1 h (sUht S (fun j => if a * 5 ≤ j ∧ j < a * 5 + i then 0 else sht S j)) → (∀ q, q ≠ h + 2 → I1 q = I q) → Zp G 66 4 [some (.ref h), some (.int (nI a)), some (.int (nI (fgC S a i))), some (.int (nI i))] [] I1 L Q := by
    intro n
    induction n with
    | zero =>
      intro i I1 hi hp1 hf1
      have hc : ∀ k, fgC S a (i + k) = fgC S a i ∨ 5 < i + k := by
        intro k
        induction k with
        | zero => exact Or.inl rfl
        | succ k ihk =>
          by_cases hk : i + k < 5
          · left
            have hz1 := hz a (i + k) (by omega) hk (Or.inr (Or.inl (by omega)))
            have e : fgC S a (i + (k + 1)) = fgC S a (i + k) + if 0 < sht S (a * 5 + (i + k)) then 1 else 0 := rfl
            rw [e, hz1, if_neg (by decide)]
            omega
          · right
            omega
      have hc5 : fgC S a 5 = fgC S a i := by
        have := hc (5 - i)
        rw [show i + (5 - i) = 5 by omega] at this
        omega
      refine Zp.iload_n k_66_4 rfl ?_
      refine Zp.aload_n k_66_5 rfl ?_
      refine Zp.getV k_66_6 rfl (zlt rfl) hs.1 (show I1 h 0 = nI (sn S) from hp1.1) ?_
      refine Zp.icmp_geN k_66_9 (by omega) (by omega) (fun c_9 => ?_) (fun c_9 => absurd (by omega) c_9)
      refine Zp.iload_n k_66_42 rfl ?_
      refine Zp.iret _ k_66_43 vr_66 rfl ?_
      rw [← hc5]
      refine hq I1 (hp1.uht fun j => ?_) hf1
      by_cases c1 : a * 5 ≤ j ∧ j < a * 5 + i
      · rw [if_pos c1, if_pos (by omega)]
      · rw [if_neg c1]
        by_cases c2 : a * 5 ≤ j ∧ j < a * 5 + 5
        · rw [if_pos c2]
          have := hz a (j - a * 5) (by omega) (by omega) (Or.inr (Or.inl (by omega)))
          rw [show a * 5 + (j - a * 5) = j by omega] at this
          exact this
        · rw [if_neg c2]
    | succ n ih =>
      intro i I1 hi hp1 hf1
      have ho1 : So (sUht S (fun j => if a * 5 ≤ j ∧ j < a * 5 + i then 0 else sht S j)) := ho.uht fun j => by
        have := o7 j
        show (if _ then _ else _) ≤ 9
        split <;> omega
      have hv : sht (sUht S (fun j => if a * 5 ≤ j ∧ j < a * 5 + i then 0 else sht S j)) (a * 5 + i) = sht S (a * 5 + i) := if_neg (by omega)
      have hj := o7 (a * 5 + i)
      have hv2 : ∀ j, va_up (fun j => if a * 5 ≤ j ∧ j < a * 5 + i then 0 else sht S j) (a * 5 + i) 0 j = if a * 5 ≤ j ∧ j < a * 5 + (i + 1) then 0 else sht S j := by
        intro j
        by_cases c2 : j = a * 5 + i
        · subst c2; rw [va_up_s, if_pos (by omega)]
        · rw [va_up_n _ _ c2]
          by_cases c1 : a * 5 ≤ j ∧ j < a * 5 + i
          · rw [if_pos c1, if_pos (by omega)]
          · rw [if_neg c1, if_neg (by omega)]
      have join : ∀ (c : Nat) (I2 : zI), c = fgC S a (i + 1) → Sp I2 h (sUht S (fun j => if a * 5 ≤ j ∧ j < a * 5 + (i + 1) then 0 else sht S j)) → (∀ q, q ≠ h + 2 → I2 q = I q) → Zp G 66 36 [some (.ref h), some (.int (nI a)), some (.int (nI c)), some (.int (nI i))] [] I2 L Q := by
        intro c I2 hc hp2 hf2
        subst hc
        refine Zp.iinc (nI (_ + 1)) [some (.ref _), some (.int _), some (.int _), some (.int _)] k_66_36 rfl (nI_1 _) (Nat.lt_of_lt_of_eq (zlt rfl : 3 < 4) vl_66.symm) rfl ?_
        refine Zp.goto k_66_39 ?_
        exact ih (i + 1) I2 (by omega) hp2 hf2
      have skip : sht S (a * 5 + i) = 0 → Zp G 66 36 [some (.ref h), some (.int (nI a)), some (.int (nI (fgC S a i))), some (.int (nI i))] [] I1 L Q := by
        intro h0
        refine join _ I1 ?_ (hp1.uht fun j => ?_) hf1
        · show _ = fgC S a i + (if 0 < sht S (a * 5 + i) then 1 else 0)
          rw [h0]
          rfl
        · by_cases c1 : a * 5 ≤ j ∧ j < a * 5 + i
          · rw [if_pos c1, if_pos (by omega)]
          · rw [if_neg c1]
            by_cases c2 : j = a * 5 + i
            · rw [if_pos (by omega), c2]; exact h0
            · rw [if_neg (by omega)]
      refine Zp.iload_n k_66_4 rfl ?_
      refine Zp.aload_n k_66_5 rfl ?_
      refine Zp.getV k_66_6 rfl (zlt rfl) hs.1 (show I1 h 0 = nI (sn S) from hp1.1) ?_
      refine Zp.icmp_geN k_66_9 (by omega) (by omega) (fun c_9 => absurd c_9 (by omega)) (fun c_9 => ?_)
      refine Zp.iload_n k_66_12 rfl ?_
      refine Zp.iload_n k_66_13 rfl ?_
      refine Zp.icmp_eqN k_66_14 (by omega) (by omega) (fun c_14 => ?_) (fun c_14 => ?_)
      · first | exact skip c_23 | exact skip (hz a i (by omega) (by omega) (Or.inr (Or.inr (by omega)))) | exact join _ _ (by show _ = fgC S a i + (if 0 < sht S (a * 5 + i) then 1 else 0); rw [if_pos (by omega)]) ((hp1.uh (v := 0) rfl).uht2 hv2) (fun q hne => by rw [zpu_q _ _ _ hne, hf1 q hne])
      · refine Zp.aload_n k_66_17 rfl ?_
        refine Zp.iload_n k_66_18 rfl ?_
        refine Zp.iload_n k_66_19 rfl ?_
        refine Zp.callv2I v_58 k_66_20 hs.1 (Nat.le_of_ble_eq_true rfl) (Nat.le_of_ble_eq_true rfl) (c_hatredOf hs hp1 (by omega) (by omega) ⟨_, rfl, ?_⟩)
        rw [hv]
        refine Zp.if_leN k_66_23 (by omega) (fun c_23 => ?_) (fun c_23 => ?_)
        · first | exact skip c_23 | exact skip (hz a i (by omega) (by omega) (Or.inr (Or.inr (by omega)))) | exact join _ _ (by show _ = fgC S a i + (if 0 < sht S (a * 5 + i) then 1 else 0); rw [if_pos (by omega)]) ((hp1.uh (v := 0) rfl).uht2 hv2) (fun q hne => by rw [zpu_q _ _ _ hne, hf1 q hne])
        · refine Zp.aload_n k_66_26 rfl ?_
          refine Zp.iload_n k_66_27 rfl ?_
          refine Zp.iload_n k_66_28 rfl ?_
          refine Zp.iconst (nI 0) k_66_29 (by decide) ?_
          refine Zp.callv3V v_59 k_66_30 hs.1 (Nat.le_of_ble_eq_true rfl) (Nat.le_of_ble_eq_true rfl) (c_setHatred hs (by omega) (by omega) ⟨rfl, ?_⟩)
          refine Zp.iinc (nI (_ + 1)) [some (.ref _), some (.int _), some (.int _), some (.int _)] k_66_33 rfl (nI_1 _) (Nat.lt_of_lt_of_eq (zlt rfl : 2 < 4) vl_66.symm) rfl ?_
          first | exact skip c_23 | exact skip (hz a i (by omega) (by omega) (Or.inr (Or.inr (by omega)))) | exact join _ _ (by show _ = fgC S a i + (if 0 < sht S (a * 5 + i) then 1 else 0); rw [if_pos (by omega)]) ((hp1.uh (v := 0) rfl).uht2 hv2) (fun q hne => by rw [zpu_q _ _ _ hne, hf1 q hne])
  refine Zm.go [some (.ref _), some (.int _), none, none] vl_66 rfl ?_
  refine Zp.iconst (nI 0) k_66_0 (by decide) ?_
  refine Zp.istore_n [some (.ref _), some (.int _), some (.int _), none] k_66_1 (Nat.lt_of_lt_of_eq (zlt rfl : 2 < 4) vl_66.symm) rfl ?_
  refine Zp.iconst (nI 0) k_66_2 (by decide) ?_
  refine Zp.istore_n [some (.ref _), some (.int _), some (.int _), some (.int _)] k_66_3 (Nat.lt_of_lt_of_eq (zlt rfl : 3 < 4) vl_66.symm) rfl ?_
  exact loop (sn S) 0 I (by omega) (hp.uht2 fun j => (if_neg (by omega)).symm) (fun _ _ => rfl)
/-- a copy of the soup at h2 -/
theorem c_Soup_copyFrom (hs : Sa h) (hs2 : Sa h2) (hne : h + 2 < h2 ∨ h2 + 2 < h) (hp : Sp I h2 S) (ho : So S) (hq : ∀ I', Sp I' h S → (∀ q, q ≠ h → q ≠ h + 1 → q ≠ h + 2 → I' q = I q) → Q none I' L) : Zm G 55 [.ref h, .ref h2] I L Q := by
  obtain ⟨o1, o2, o3, o4, o5, o6, o7⟩ := id ho
  have n0 : h2 ≠ h := by omega
  have n1 : h2 + 1 ≠ h := by omega
  have n2 : h2 + 2 ≠ h := by omega
  refine Zm.go [some (.ref _), some (.ref _)] vl_55 rfl ?_
  refine Zp.aload_n k_55_0 rfl ?_
  refine Zp.aload_n k_55_1 rfl ?_
  refine Zp.getV k_55_2 rfl (zlt rfl) hs2.1 (by first | exact hp.1 | (simp only [zpu_q _ _ _ n0]; exact hp.1)) ?_
  refine Zp.putI k_55_5 rfl (zlt rfl) hs.1 ?_
  refine Zp.aload_n k_55_8 rfl ?_
  refine Zp.aload_n k_55_9 rfl ?_
  refine Zp.getV k_55_10 rfl (zlt rfl) hs2.1 (by first | exact hp.2.1 | (simp only [zpu_q _ _ _ n0]; exact hp.2.1)) ?_
  refine Zp.putI k_55_13 rfl (zlt rfl) hs.1 ?_
  refine Zp.aload_n k_55_16 rfl ?_
  refine Zp.aload_n k_55_17 rfl ?_
  refine Zp.getV k_55_18 rfl (zlt rfl) hs2.1 (by first | exact hp.2.2.1 | (simp only [zpu_q _ _ _ n0]; exact hp.2.2.1)) ?_
  refine Zp.putI k_55_21 rfl (zlt rfl) hs.1 ?_
  refine Zp.aload_n k_55_24 rfl ?_
  refine Zp.aload_n k_55_25 rfl ?_
  refine Zp.getV k_55_26 rfl (zlt rfl) hs2.1 (by first | exact hp.2.2.2.1 | (simp only [zpu_q _ _ _ n0]; exact hp.2.2.2.1)) ?_
  refine Zp.putI k_55_29 rfl (zlt rfl) hs.1 ?_
  refine Zp.aload_n k_55_32 rfl ?_
  refine Zp.aload_n k_55_33 rfl ?_
  refine Zp.getV k_55_34 rfl (zlt rfl) hs2.1 (by first | exact hp.2.2.2.2.1 | (simp only [zpu_q _ _ _ n0]; exact hp.2.2.2.2.1)) ?_
  refine Zp.putI k_55_37 rfl (zlt rfl) hs.1 ?_
  refine Zp.aload_n k_55_40 rfl ?_
  refine Zp.aload_n k_55_41 rfl ?_
  refine Zp.getV k_55_42 rfl (zlt rfl) hs2.1 (by first | exact hp.2.2.2.2.2.1 | (simp only [zpu_q _ _ _ n0]; exact hp.2.2.2.2.2.1)) ?_
  refine Zp.putZ k_55_45 rfl (zlt rfl) (nI01 o5) hs.1 ?_
  refine Zp.aload_n k_55_48 rfl ?_
  refine Zp.getR k_55_49 rfl (zlt rfl) hs2.1 hs2.2.2.2.1 ?_
  refine Zp.iconst (nI 0) k_55_52 (by decide) ?_
  refine Zp.aload_n k_55_53 rfl ?_
  refine Zp.getR k_55_54 rfl (zlt rfl) hs.1 hs.2.2.2.1 ?_
  refine Zp.iconst (nI 0) k_55_57 (by decide) ?_
  refine Zp.iconst (nI 5) k_55_58 (by decide) ?_
  refine Zp.copy (sp := 0) (dp := 0) k_55_59 (Nat.le_of_ble_eq_true rfl) hs2.2.1 hs.2.1 rfl rfl rfl (Nat.le_of_ble_eq_true rfl) (Nat.le_of_ble_eq_true rfl) (zlt rfl) (zlt rfl) ?_
  refine Zp.aload_n k_55_62 rfl ?_
  refine Zp.getR k_55_63 rfl (zlt rfl) hs2.1 hs2.2.2.2.2 ?_
  refine Zp.iconst (nI 0) k_55_66 (by decide) ?_
  refine Zp.aload_n k_55_67 rfl ?_
  refine Zp.getR k_55_68 rfl (zlt rfl) hs.1 hs.2.2.2.2 ?_
  refine Zp.iconst (nI 0) k_55_71 (by decide) ?_
  refine Zp.bipush (nI 25) k_55_72 (by decide) ?_
  refine Zp.copy (sp := 0) (dp := 0) k_55_74 (Nat.le_of_ble_eq_true rfl) hs2.2.2.1 hs.2.2.1 rfl rfl rfl (Nat.le_of_ble_eq_true rfl) (Nat.le_of_ble_eq_true rfl) (zlt rfl) (zlt rfl) ?_
  refine Zp.vret k_55_77 vr_55 ?_
  refine hq _ ⟨?_, ?_, ?_, ?_, ?_, ?_, fun a ha => ?_, fun j hj => ?_⟩ (fun q a0 a1 a2 => ?_)
  · rw [va_up_n _ _ (by omega), va_up_n _ _ (by omega), zpu_k _ _ _ (by decide), zpu_k _ _ _ (by decide), zpu_k _ _ _ (by decide), zpu_k _ _ _ (by decide), zpu_k _ _ _ (by decide), zpu_s]
  · rw [va_up_n _ _ (by omega), va_up_n _ _ (by omega), zpu_k _ _ _ (by decide), zpu_k _ _ _ (by decide), zpu_k _ _ _ (by decide), zpu_k _ _ _ (by decide), zpu_s]
  · rw [va_up_n _ _ (by omega), va_up_n _ _ (by omega), zpu_k _ _ _ (by decide), zpu_k _ _ _ (by decide), zpu_k _ _ _ (by decide), zpu_s]
  · rw [va_up_n _ _ (by omega), va_up_n _ _ (by omega), zpu_k _ _ _ (by decide), zpu_k _ _ _ (by decide), zpu_s]
  · rw [va_up_n _ _ (by omega), va_up_n _ _ (by omega), zpu_k _ _ _ (by decide), zpu_s]
  · rw [va_up_n _ _ (by omega), va_up_n _ _ (by omega), zpu_s]
  · rw [va_up_n _ _ (by omega), va_up_s, sb_cpy0 (by omega)]
    simp only [zpu_q _ _ _ n1]
    exact hp.2.2.2.2.2.2.1 a ha
  · rw [va_up_s, sb_cpy0 hj, va_up_n _ _ (by omega)]
    simp only [zpu_q _ _ _ n2]
    exact hp.2.2.2.2.2.2.2 j hj
  · rw [va_up_n _ _ a2, va_up_n _ _ a1]
    simp only [zpu_q _ _ _ a0]
end SOUP2
