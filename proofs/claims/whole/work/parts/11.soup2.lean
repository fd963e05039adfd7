/-! SOUPS: stirring, forgiving, sums, copies -/
theorem nI01 {x : Nat} (h : x ≤ 1) : nI x = 0 ∨ nI x = 1 := by
  rcases (by omega : x = 0 ∨ x = 1) with e | e <;> rw [e]
  · exact Or.inl rfl
  · exact Or.inr rfl
def sUht (S : zSo) (f : Nat → Nat) : zSo := (sn S, sneed S, snoon S, sstep S, sdone S, sset S, skd S, f)
/-- all that a helper hates is 0 -/
def fgS (S : zSo) (a : Nat) : zSo := sUht S (fun j => if a * 5 ≤ j ∧ j < a * 5 + 5 then 0 else sht S j)
def fgC (S : zSo) (a : Nat) : Nat → Nat
  | 0 => 0
  | i + 1 => fgC S a i + if 0 < sht S (a * 5 + i) then 1 else 0
theorem fgC_le (S : zSo) (a : Nat) : ∀ i, fgC S a i ≤ i
  | 0 => Nat.le_refl 0
  | i + 1 => by
    have := fgC_le S a i
    unfold fgC
    split <;> omega
/-- nobody hates one who isn't there, nor oneself; who isn't there hates nobody -/
def Sz (S : zSo) : Prop := ∀ a b, a < 5 → b < 5 → (sn S ≤ a ∨ sn S ≤ b ∨ a = b) → sht S (a * 5 + b) = 0
def sm (f : Nat → Nat) : Nat → Nat
  | 0 => 0
  | n + 1 => sm f n + f n
theorem sm_le {f : Nat → Nat} {m : Nat} (h : ∀ i, f i ≤ m) : ∀ n, sm f n ≤ m * n
  | 0 => Nat.zero_le _
  | n + 1 => by
    have h1 := sm_le h n
    have h2 := h n
    unfold sm
    rw [Nat.mul_succ]
    omega
section SOUP2
variable {G : zG} {h h2 : Nat} {I : zI} {L : zJ} {Q : zP} {S : zSo}
theorem c_stirOnce {a b : Nat} (hs : Sa h) (hp : Sp I h S) (ho : So S) (hst : sstep S < 2 ^ 30) (ha : a < 5) (hb : b < 5) (hq : ∀ I', Sp I' h (stS S a b) → (∀ q, q ≠ h → q ≠ h + 2 → I' q = I q) → Q none I' L) : Zm G 63 [.ref h, .int (nI a), .int (nI b)] I L Q := by
  have tail : ∀ (I1 : zI) (S1 : zSo), Sp I1 h S1 → So S1 → sstep S1 < 2 ^ 30 → (∀ q, q ≠ h → q ≠ h + 2 → I1 q = I q) → sUstep (coS (coS S1 a b) b a) = stS S a b → Zp G 63 47 [some (.ref h), some (.int (nI a)), some (.int (nI b))] [] I1 L Q := by
    intro I1 S1 hp1 ho1 hst1 hf1 he
    refine Zp.aload_n k_63_47 rfl ?_
    refine Zp.iload_n k_63_48 rfl ?_
    refine Zp.iload_n k_63_49 rfl ?_
    refine Zp.callv2V v_64 k_63_50 hs.1 (Nat.le_of_ble_eq_true rfl) (Nat.le_of_ble_eq_true rfl) (c_cool hs hp1 ho1 hst1 ha hb (fun I2 hp2 hf2 => ⟨rfl, ?_⟩))
    refine Zp.aload_n k_63_53 rfl ?_
    refine Zp.iload_n k_63_54 rfl ?_
    refine Zp.iload_n k_63_55 rfl ?_
    refine Zp.callv2V v_64 k_63_56 hs.1 (Nat.le_of_ble_eq_true rfl) (Nat.le_of_ble_eq_true rfl) (c_cool hs hp2 (ho1.co a b) hst1 hb ha (fun I3 hp3 hf3 => ⟨rfl, ?_⟩))
    refine Zp.aload_n k_63_59 rfl ?_
    refine Zp.dup k_63_60 rfl ?_
    refine Zp.getV k_63_61 rfl (zlt rfl) hs.1 hp3.2.2.2.1 ?_
    refine Zp.iconst (nI 1) k_63_64 (by decide) ?_
    refine Zp.iaddN k_63_65 ?_
    refine Zp.putI k_63_66 rfl (zlt rfl) hs.1 ?_
    refine Zp.vret k_63_69 vr_63 ?_
    exact hq _ (he ▸ hp3.ustep) (fun q h1 h2 => by rw [zpu_q _ _ _ h1, hf3 q h2, hf2 q h2, hf1 q h1 h2])
  obtain ⟨o1, o2, o3, o4, o5, o6, o7⟩ := id ho
  have hj := o7 (a * 5 + b)
  have hj2 := o7 (b * 5 + a)
  have ht := tn_le ho a b
  refine Zm.go [some (.ref _), some (.int _), some (.int _)] vl_63 rfl ?_
  refine Zp.aload_n k_63_0 rfl ?_
  refine Zp.iload_n k_63_1 rfl ?_
  refine Zp.iload_n k_63_2 rfl ?_
  refine Zp.callv2I v_58 k_63_3 hs.1 (Nat.le_of_ble_eq_true rfl) (Nat.le_of_ble_eq_true rfl) (c_hatredOf hs hp ha hb ⟨_, rfl, ?_⟩)
  refine Zp.if_neN k_63_6 (by omega) (fun c_6 => ?_) (fun c_6 => ?_)
  · refine Zp.aload_n k_63_26 rfl ?_
    refine Zp.sipush (nI 999) k_63_27 (by decide) ?_
    refine Zp.aload_n k_63_30 rfl ?_
    refine Zp.getV k_63_31 rfl (zlt rfl) hs.1 hp.2.2.2.2.1 ?_
    refine Zp.aload_n k_63_34 rfl ?_
    refine Zp.iload_n k_63_35 rfl ?_
    refine Zp.iload_n k_63_36 rfl ?_
    refine Zp.callv2I v_61 k_63_37 hs.1 (Nat.le_of_ble_eq_true rfl) (Nat.le_of_ble_eq_true rfl) (c_turnOf hs hp ho ha hb ⟨_, rfl, ?_⟩)
    refine Zp.iaddN k_63_40 ?_
    refine Zp.mminN k_63_41 (Nat.le_of_ble_eq_true rfl) (by omega) (by omega) ?_
    refine Zp.putI k_63_44 rfl (zlt rfl) hs.1 ?_
    first | exact tail _ _ hp.uset ho.uset hst (fun q h1 h2 => zpu_q _ _ _ h1) (by unfold stS; rw [if_pos ⟨c_6, c_15⟩]) | exact tail _ _ hp.udone (ho.udone (Nat.min_le_left _ _)) hst (fun q h1 h2 => zpu_q _ _ _ h1) (by unfold stS; rw [if_neg (by omega)])
  · refine Zp.aload_n k_63_9 rfl ?_
    refine Zp.iload_n k_63_10 rfl ?_
    refine Zp.iload_n k_63_11 rfl ?_
    refine Zp.callv2I v_58 k_63_12 hs.1 (Nat.le_of_ble_eq_true rfl) (Nat.le_of_ble_eq_true rfl) (c_hatredOf hs hp hb ha ⟨_, rfl, ?_⟩)
    refine Zp.if_neN k_63_15 (by omega) (fun c_15 => ?_) (fun c_15 => ?_)
    · refine Zp.aload_n k_63_26 rfl ?_
      refine Zp.sipush (nI 999) k_63_27 (by decide) ?_
      refine Zp.aload_n k_63_30 rfl ?_
      refine Zp.getV k_63_31 rfl (zlt rfl) hs.1 hp.2.2.2.2.1 ?_
      refine Zp.aload_n k_63_34 rfl ?_
      refine Zp.iload_n k_63_35 rfl ?_
      refine Zp.iload_n k_63_36 rfl ?_
      refine Zp.callv2I v_61 k_63_37 hs.1 (Nat.le_of_ble_eq_true rfl) (Nat.le_of_ble_eq_true rfl) (c_turnOf hs hp ho ha hb ⟨_, rfl, ?_⟩)
      refine Zp.iaddN k_63_40 ?_
      refine Zp.mminN k_63_41 (Nat.le_of_ble_eq_true rfl) (by omega) (by omega) ?_
      refine Zp.putI k_63_44 rfl (zlt rfl) hs.1 ?_
      first | exact tail _ _ hp.uset ho.uset hst (fun q h1 h2 => zpu_q _ _ _ h1) (by unfold stS; rw [if_pos ⟨c_6, c_15⟩]) | exact tail _ _ hp.udone (ho.udone (Nat.min_le_left _ _)) hst (fun q h1 h2 => zpu_q _ _ _ h1) (by unfold stS; rw [if_neg (by omega)])
    · refine Zp.aload_n k_63_18 rfl ?_
      refine Zp.iconst (nI 1) k_63_19 (by decide) ?_
      refine Zp.putZ k_63_20 rfl (zlt rfl) (by decide) hs.1 ?_
      refine Zp.goto k_63_23 ?_
      first | exact tail _ _ hp.uset ho.uset hst (fun q h1 h2 => zpu_q _ _ _ h1) (by unfold stS; rw [if_pos ⟨c_6, c_15⟩]) | exact tail _ _ hp.udone (ho.udone (Nat.min_le_left _ _)) hst (fun q h1 h2 => zpu_q _ _ _ h1) (by unfold stS; rw [if_neg (by omega)])
/-- two stir if they may, whatever is asked -/
theorem c_stirsIfMay {x y : Int32} (hs : Sa h) (hp : Sp I h S) (ho : So S) (hst : sstep S < 2 ^ 30)
    (hno : ¬ (((0 ≤ x.toInt ∧ x.toInt < (sn S : Int)) ∧ (0 ≤ y.toInt ∧ y.toInt < (sn S : Int)) ∧ ¬ x.toInt = y.toInt) ∧ sset S = 0 ∧ sstep S < snoon S) → Q (some (.int (nI 0))) I L)
    (hyes : ∀ a b I', a < sn S → b < sn S → ¬ a = b → x = nI a → y = nI b → sset S = 0 → sstep S < snoon S → Sp I' h (stS S a b) → (∀ q, q ≠ h → q ≠ h + 2 → I' q = I q) → Q (some (.int (nI 1))) I' L) : Zm G 65 [.ref h, .int x, .int y] I L Q := by
  obtain ⟨o1, o2, o3, o4, o5, o6, o7⟩ := id ho
  refine Zm.go [some (.ref _), some (.int _), some (.int _), none] vl_65 rfl ?_
  refine Zp.aload_n k_65_0 rfl ?_
  refine Zp.iload_n k_65_1 rfl ?_
  refine Zp.iload_n k_65_2 rfl ?_
  refine Zp.callv2I v_57 k_65_3 hs.1 (Nat.le_of_ble_eq_true rfl) (Nat.le_of_ble_eq_true rfl) (c_areTwo hs hp ho ⟨_, rfl, ?_⟩)
  refine Zp.if_eqB k_65_6 (fun c_6 => ?_) (fun c_6 => ?_)
  · refine Zp.iconst (nI 0) k_65_20 (by decide) ?_
    refine Zp.istore_n [some (.ref _), some (.int _), some (.int _), some (.int _)] k_65_21 (Nat.lt_of_lt_of_eq (zlt rfl : 3 < 4) vl_65.symm) rfl ?_
    refine Zp.iload_n k_65_22 rfl ?_
    refine Zp.if_eqN k_65_23 (by omega) (fun _ => ?_) (fun c => absurd c (by decide))
    refine Zp.iload_n k_65_32 rfl ?_
    refine Zp.iret _ k_65_33 vr_65 rfl ?_
    first | exact hno (fun z => c_6 z.1) | exact hno (fun z => c_13 z.2) | exact hyes _ _ _ ha hb (by omega) rfl rfl c_13.1 c_13.2 hp2 hf2
  · refine Zp.aload_n k_65_9 rfl ?_
    refine Zp.callv0I v_62 k_65_10 hs.1 (Nat.le_of_ble_eq_true rfl) (Nat.le_of_ble_eq_true rfl) (c_canBeStirred hs hp ho hst ⟨_, rfl, ?_⟩)
    refine Zp.if_eqB k_65_13 (fun c_13 => ?_) (fun c_13 => ?_)
    · refine Zp.iconst (nI 0) k_65_20 (by decide) ?_
      refine Zp.istore_n [some (.ref _), some (.int _), some (.int _), some (.int _)] k_65_21 (Nat.lt_of_lt_of_eq (zlt rfl : 3 < 4) vl_65.symm) rfl ?_
      refine Zp.iload_n k_65_22 rfl ?_
      refine Zp.if_eqN k_65_23 (by omega) (fun _ => ?_) (fun c => absurd c (by decide))
      refine Zp.iload_n k_65_32 rfl ?_
      refine Zp.iret _ k_65_33 vr_65 rfl ?_
      first | exact hno (fun z => c_6 z.1) | exact hno (fun z => c_13 z.2) | exact hyes _ _ _ ha hb (by omega) rfl rfl c_13.1 c_13.2 hp2 hf2
    · refine Zp.iconst (nI 1) k_65_16 (by decide) ?_
      refine Zp.goto k_65_17 ?_
      refine Zp.istore_n [some (.ref _), some (.int _), some (.int _), some (.int _)] k_65_21 (Nat.lt_of_lt_of_eq (zlt rfl : 3 < 4) vl_65.symm) rfl ?_
      refine Zp.iload_n k_65_22 rfl ?_
      refine Zp.if_eqN k_65_23 (by omega) (fun c => absurd c (by decide)) (fun _ => ?_)
      obtain ⟨a, ha, rfl, ea⟩ := zin_nI c_6.1.1 c_6.1.2
      obtain ⟨b, hb, rfl, eb⟩ := zin_nI c_6.2.1.1 c_6.2.1.2
      refine Zp.aload_n k_65_26 rfl ?_
      refine Zp.iload_n k_65_27 rfl ?_
      refine Zp.iload_n k_65_28 rfl ?_
      refine Zp.callv2V v_63 k_65_29 hs.1 (Nat.le_of_ble_eq_true rfl) (Nat.le_of_ble_eq_true rfl) (c_stirOnce hs hp ho hst (by omega) (by omega) (fun I2 hp2 hf2 => ⟨rfl, ?_⟩))
      refine Zp.iload_n k_65_32 rfl ?_
      refine Zp.iret _ k_65_33 vr_65 rfl ?_
      first | exact hno (fun z => c_6 z.1) | exact hno (fun z => c_13 z.2) | exact hyes _ _ _ ha hb (by omega) rfl rfl c_13.1 c_13.2 hp2 hf2
theorem c_allHatred (hs : Sa h) (hp : Sp I h S) (ho : So S) (hq : Q (some (.int (nI (sm (sht S) 25)))) I L) : Zm G 67 [.ref h] I L Q := by
  have loop : ∀ n i, i + n = 25 → Zp G 67 4 [some (.ref h), some (.int (nI (sm (sht S) i))), some (.int (nI i))] [] I L Q := by
    intro n
    induction n with
    | zero =>
      intro i hi
      have e : i = 25 := by omega
      subst e
      refine Zp.iload_n k_67_4 rfl ?_
      refine Zp.aload_n k_67_5 rfl ?_
      refine Zp.getR k_67_6 rfl (zlt rfl) hs.1 hs.2.2.2.2 ?_
      refine Zp.alen k_67_9 hs.2.2.1 (Nat.le_of_ble_eq_true rfl) ?_
      refine Zp.icmp_geN k_67_10 (by omega) (by omega) (fun c_10 => ?_) (fun c_10 => absurd (by omega) c_10)
      refine Zp.iload_n k_67_28 rfl ?_
      refine Zp.iret _ k_67_29 vr_67 rfl ?_
      exact hq
    | succ n ih =>
      intro i hi
      refine Zp.iload_n k_67_4 rfl ?_
      refine Zp.aload_n k_67_5 rfl ?_
      refine Zp.getR k_67_6 rfl (zlt rfl) hs.1 hs.2.2.2.2 ?_
      refine Zp.alen k_67_9 hs.2.2.1 (Nat.le_of_ble_eq_true rfl) ?_
      refine Zp.icmp_geN k_67_10 (by omega) (by omega) (fun c_10 => absurd c_10 (by omega)) (fun c_10 => ?_)
      refine Zp.iload_n k_67_13 rfl ?_
      refine Zp.aload_n k_67_14 rfl ?_
      refine Zp.getR k_67_15 rfl (zlt rfl) hs.1 hs.2.2.2.2 ?_
      refine Zp.iload_n k_67_18 rfl ?_
      refine Zp.iald _ k_67_19 hs.2.2.1 rfl (by omega) (zlt rfl) (hp.2.2.2.2.2.2.2 _ (by omega)) ?_
      refine Zp.iaddN k_67_20 ?_
      refine Zp.istore_n [some (.ref _), some (.int _), some (.int _)] k_67_21 (Nat.lt_of_lt_of_eq (zlt rfl : 1 < 3) vl_67.symm) rfl ?_
      refine Zp.iinc (nI (_ + 1)) [some (.ref _), some (.int _), some (.int _)] k_67_22 rfl (nI_1 _) (Nat.lt_of_lt_of_eq (zlt rfl : 2 < 3) vl_67.symm) rfl ?_
      refine Zp.goto k_67_25 ?_
      exact ih (i + 1) (by omega)
  refine Zm.go [some (.ref _), none, none] vl_67 rfl ?_
  refine Zp.iconst (nI 0) k_67_0 (by decide) ?_
  refine Zp.istore_n [some (.ref _), some (.int _), none] k_67_1 (Nat.lt_of_lt_of_eq (zlt rfl : 1 < 3) vl_67.symm) rfl ?_
  refine Zp.iconst (nI 0) k_67_2 (by decide) ?_
  refine Zp.istore_n [some (.ref _), some (.int _), some (.int _)] k_67_3 (Nat.lt_of_lt_of_eq (zlt rfl : 2 < 3) vl_67.symm) rfl ?_
  exact loop 25 0 rfl
end SOUP2
