/-! SOUPS: what a soup is in numbers; its methods -/
/-- helpers, need, noon, step, done, whether set, kinds, hatreds (of one for another at 5 times the one and the other) -/
abbrev zSo : Type := Nat × Nat × Nat × Nat × Nat × Nat × (Nat → Nat) × (Nat → Nat)
abbrev sn (S : zSo) : Nat := S.1
abbrev sneed (S : zSo) : Nat := S.2.1
abbrev snoon (S : zSo) : Nat := S.2.2.1
abbrev sstep (S : zSo) : Nat := S.2.2.2.1
abbrev sdone (S : zSo) : Nat := S.2.2.2.2.1
abbrev sset (S : zSo) : Nat := S.2.2.2.2.2.1
abbrev skd (S : zSo) : Nat → Nat := S.2.2.2.2.2.2.1
abbrev sht (S : zSo) : Nat → Nat := S.2.2.2.2.2.2.2
def So (S : zSo) : Prop := sn S ≤ 5 ∧ sneed S ≤ 99 ∧ snoon S ≤ 12 ∧ sdone S ≤ 999 ∧ sset S ≤ 1 ∧ (∀ a, skd S a ≤ 3) ∧ ∀ j, sht S j ≤ 9
def fl (S : zSo) (a b : Nat) : Nat := match skd S a with
  | 1 => sht S (a * 5 + b) - 1
  | 2 => if sht S (a * 5 + b) < 3 then sht S (a * 5 + b) else 3
  | 3 => 2 * sht S (a * 5 + b)
  | _ => sht S (a * 5 + b)
def tn (S : zSo) (a b : Nat) : Nat := min (fl S a b) (fl S b a)
def sUh (S : zSo) (j v : Nat) : zSo := (sn S, sneed S, snoon S, sstep S, sdone S, sset S, skd S, va_up (sht S) j v)
def sUset (S : zSo) : zSo := (sn S, sneed S, snoon S, sstep S, sdone S, 1, skd S, sht S)
def sUdone (S : zSo) (v : Nat) : zSo := (sn S, sneed S, snoon S, sstep S, v, sset S, skd S, sht S)
def sUstep (S : zSo) : zSo := (sn S, sneed S, snoon S, sstep S + 1, sdone S, sset S, skd S, sht S)
/-- by how much a helper's hatred cools -/
def cby (S : zSo) (a : Nat) : Nat := if skd S a = 1 then sstep S % 2 else if skd S a = 3 then 2 else 1
def coS (S : zSo) (a b : Nat) : zSo := sUh S (a * 5 + b) (sht S (a * 5 + b) - cby S a)
/-- two stir, noon aside -/
def stS (S : zSo) (a b : Nat) : zSo :=
  sUstep (coS (coS (if sht S (a * 5 + b) = 0 ∧ sht S (b * 5 + a) = 0 then sUset S else sUdone S (min 999 (sdone S + tn S a b))) a b) b a)
theorem fl_le {S : zSo} (h : So S) (a b : Nat) : fl S a b ≤ 18 := by
  have h1 := h.2.2.2.2.2.2 (a * 5 + b)
  unfold fl
  split
  · omega
  · split <;> omega
  · omega
  · omega
theorem tn_le {S : zSo} (h : So S) (a b : Nat) : tn S a b ≤ 18 := Nat.le_trans (Nat.min_le_left _ _) (fl_le h a b)
theorem So.uh {S : zSo} (h : So S) {j v : Nat} (hv : v ≤ 9) : So (sUh S j v) := by
  obtain ⟨o1, o2, o3, o4, o5, o6, o7⟩ := h
  refine ⟨o1, o2, o3, o4, o5, o6, fun i => ?_⟩
  show va_up (sht S) j v i ≤ 9
  unfold va_up
  split
  · exact hv
  · exact o7 i
theorem So.uset {S : zSo} (h : So S) : So (sUset S) := ⟨h.1, h.2.1, h.2.2.1, h.2.2.2.1, Nat.le_refl 1, h.2.2.2.2.2⟩
theorem So.udone {S : zSo} (h : So S) {v : Nat} (hv : v ≤ 999) : So (sUdone S v) := ⟨h.1, h.2.1, h.2.2.1, hv, h.2.2.2.2⟩
theorem So.ustep {S : zSo} (h : So S) : So (sUstep S) := h
theorem So.co {S : zSo} (h : So S) (a b : Nat) : So (coS S a b) := h.uh (by have := h.2.2.2.2.2.2 (a * 5 + b); omega)
theorem So.st {S : zSo} (h : So S) (a b : Nat) : So (stS S a b) := by
  unfold stS
  refine So.ustep (So.co (So.co ?_ a b) b a)
  split
  · exact h.uset
  · exact h.udone (Nat.min_le_left _ _)
/-- the soup at h -/
def Sp (I : zI) (h : Nat) (S : zSo) : Prop := I h 0 = nI (sn S) ∧ I h 1 = nI (sneed S) ∧ I h 2 = nI (snoon S) ∧ I h 3 = nI (sstep S) ∧ I h 4 = nI (sdone S) ∧ I h 5 = nI (sset S) ∧ (∀ a, a < sn S → I (h + 1) a = nI (skd S a)) ∧ ∀ j, j < 25 → I (h + 2) j = nI (sht S j)
def Sa (h : Nat) : Prop := M0[h]? = some (8, 0) ∧ M0[h + 1]? = some (50, 5) ∧ M0[h + 2]? = some (50, 25) ∧ (h, 6, h + 1) ∈ R0 ∧ (h, 7, h + 2) ∈ R0
theorem Sp.fr {I I' : zI} {h : Nat} {S : zSo} (hp : Sp I h S) (h0 : I' h = I h) (h1 : I' (h + 1) = I (h + 1)) (h2 : I' (h + 2) = I (h + 2)) : Sp I' h S := by
  unfold Sp at hp ⊢
  rw [h0, h1, h2]
  exact hp
theorem Sp.uh {I : zI} {h j v : Nat} {S : zSo} {x : Int32} (hp : Sp I h S) (hx : x = nI v) : Sp (zpu I (h + 2) j x) h (sUh S j v) := by
  obtain ⟨p0, p1, p2, p3, p4, p5, p6, p7⟩ := hp
  have e0 : zpu I (h + 2) j x h = I h := zpu_q _ _ _ (by omega)
  have e1 : zpu I (h + 2) j x (h + 1) = I (h + 1) := zpu_q _ _ _ (by omega)
  refine ⟨by rw [e0]; exact p0, by rw [e0]; exact p1, by rw [e0]; exact p2, by rw [e0]; exact p3, by rw [e0]; exact p4, by rw [e0]; exact p5, fun a ha => by rw [e1]; exact p6 a ha, fun i hi => ?_⟩
  show zpu I (h + 2) j x (h + 2) i = nI (va_up (sht S) j v i)
  by_cases e : i = j
  · subst e; rw [zpu_s, va_up_s]; exact hx
  · rw [zpu_k _ _ _ e, va_up_n _ _ e]; exact p7 i hi
theorem Sp.uset {I : zI} {h : Nat} {S : zSo} (hp : Sp I h S) : Sp (zpu I h 5 (nI 1)) h (sUset S) := by
  obtain ⟨p0, p1, p2, p3, p4, p5, p6, p7⟩ := hp
  have e1 : zpu I h 5 (nI 1) (h + 1) = I (h + 1) := zpu_q _ _ _ (by omega)
  have e2 : zpu I h 5 (nI 1) (h + 2) = I (h + 2) := zpu_q _ _ _ (by omega)
  exact ⟨by rw [zpu_k _ _ _ (by decide)]; exact p0, by rw [zpu_k _ _ _ (by decide)]; exact p1, by rw [zpu_k _ _ _ (by decide)]; exact p2, by rw [zpu_k _ _ _ (by decide)]; exact p3, by rw [zpu_k _ _ _ (by decide)]; exact p4, zpu_s _ _ _ _, fun a ha => by rw [e1]; exact p6 a ha, fun j hj => by rw [e2]; exact p7 j hj⟩
theorem Sp.udone {I : zI} {h v : Nat} {S : zSo} (hp : Sp I h S) : Sp (zpu I h 4 (nI v)) h (sUdone S v) := by
  obtain ⟨p0, p1, p2, p3, p4, p5, p6, p7⟩ := hp
  have e1 : zpu I h 4 (nI v) (h + 1) = I (h + 1) := zpu_q _ _ _ (by omega)
  have e2 : zpu I h 4 (nI v) (h + 2) = I (h + 2) := zpu_q _ _ _ (by omega)
  exact ⟨by rw [zpu_k _ _ _ (by decide)]; exact p0, by rw [zpu_k _ _ _ (by decide)]; exact p1, by rw [zpu_k _ _ _ (by decide)]; exact p2, by rw [zpu_k _ _ _ (by decide)]; exact p3, zpu_s _ _ _ _, by rw [zpu_k _ _ _ (by decide)]; exact p5, fun a ha => by rw [e1]; exact p6 a ha, fun j hj => by rw [e2]; exact p7 j hj⟩
theorem Sp.ustep {I : zI} {h : Nat} {S : zSo} (hp : Sp I h S) : Sp (zpu I h 3 (nI (sstep S + 1))) h (sUstep S) := by
  obtain ⟨p0, p1, p2, p3, p4, p5, p6, p7⟩ := hp
  have e1 : zpu I h 3 (nI (sstep S + 1)) (h + 1) = I (h + 1) := zpu_q _ _ _ (by omega)
  have e2 : zpu I h 3 (nI (sstep S + 1)) (h + 2) = I (h + 2) := zpu_q _ _ _ (by omega)
  exact ⟨by rw [zpu_k _ _ _ (by decide)]; exact p0, by rw [zpu_k _ _ _ (by decide)]; exact p1, by rw [zpu_k _ _ _ (by decide)]; exact p2, zpu_s _ _ _ _, by rw [zpu_k _ _ _ (by decide)]; exact p4, by rw [zpu_k _ _ _ (by decide)]; exact p5, fun a ha => by rw [e1]; exact p6 a ha, fun j hj => by rw [e2]; exact p7 j hj⟩
theorem max0sub {h l : Nat} (h1 : h < 2 ^ 30) (h2 : l < 2 ^ 30) : (if nI 0 < nI h - nI l then nI h - nI l else nI 0) = nI (h - l) := by
  have e := pk_sub_toInt h1 h2
  by_cases c : l < h
  · rw [if_pos (Int32.lt_iff_toInt_lt.mpr (by rw [e, nI_toInt (by decide)]; omega)), pk_sub (by omega)]
  · rw [if_neg (fun z => by have z2 := Int32.lt_iff_toInt_lt.mp z; rw [e, nI_toInt (by decide)] at z2; omega), show h - l = 0 by omega]
section SOUP
variable {G : zG} {h : Nat} {I : zI} {L : zJ} {Q : zP} {S : zSo}
theorem c_isHelper {x : Int32} (hs : Sa h) (hp : Sp I h S) (ho : So S) (hq : Q (some (.int (zbo (0 ≤ x.toInt ∧ x.toInt < (sn S : Int))))) I L) : Zm G 56 [.ref h, .int x] I L Q := by
  obtain ⟨o1, o2, o3, o4, o5, o6, o7⟩ := id ho
  refine Zm.go [some (.ref _), some (.int _)] vl_56 rfl ?_
  refine Zp.iload_n k_56_0 rfl ?_
  refine Zp.if_ltZ _ k_56_1 rfl (fun c_1 => ?_) (fun c_1 => ?_)
  · refine Zp.iconst (nI 0) k_56_16 (by decide) ?_
    refine Zp.iret _ k_56_17 vr_56 rfl ?_
    exact zq0 hq (by omega)
  · refine Zp.iload_n k_56_4 rfl ?_
    refine Zp.aload_n k_56_5 rfl ?_
    refine Zp.getV k_56_6 rfl (zlt rfl) hs.1 hp.1 ?_
    refine Zp.icmp_geZ _ _ k_56_9 rfl (nI_toInt (by omega)) (fun c_9 => ?_) (fun c_9 => ?_)
    · refine Zp.iconst (nI 0) k_56_16 (by decide) ?_
      refine Zp.iret _ k_56_17 vr_56 rfl ?_
      exact zq0 hq (by omega)
    · refine Zp.iconst (nI 1) k_56_12 (by decide) ?_
      refine Zp.goto k_56_13 ?_
      refine Zp.iret _ k_56_17 vr_56 rfl ?_
      exact zq1 hq (by omega)
theorem c_areTwo {x y : Int32} (hs : Sa h) (hp : Sp I h S) (ho : So S) (hq : Q (some (.int (zbo ((0 ≤ x.toInt ∧ x.toInt < (sn S : Int)) ∧ (0 ≤ y.toInt ∧ y.toInt < (sn S : Int)) ∧ ¬ x.toInt = y.toInt)))) I L) : Zm G 57 [.ref h, .int x, .int y] I L Q := by
  refine Zm.go [some (.ref _), some (.int _), some (.int _)] vl_57 rfl ?_
  refine Zp.aload_n k_57_0 rfl ?_
  refine Zp.iload_n k_57_1 rfl ?_
  refine Zp.callv1I v_56 k_57_2 hs.1 (Nat.le_of_ble_eq_true rfl) (Nat.le_of_ble_eq_true rfl) (c_isHelper hs hp ho ⟨_, rfl, ?_⟩)
  refine Zp.if_eqB k_57_5 (fun c_5 => ?_) (fun c_5 => ?_)
  · refine Zp.iconst (nI 0) k_57_25 (by decide) ?_
    refine Zp.iret _ k_57_26 vr_57 rfl ?_
    exact zq0 hq (by omega)
  · refine Zp.aload_n k_57_8 rfl ?_
    refine Zp.iload_n k_57_9 rfl ?_
    refine Zp.callv1I v_56 k_57_10 hs.1 (Nat.le_of_ble_eq_true rfl) (Nat.le_of_ble_eq_true rfl) (c_isHelper hs hp ho ⟨_, rfl, ?_⟩)
    refine Zp.if_eqB k_57_13 (fun c_13 => ?_) (fun c_13 => ?_)
    · refine Zp.iconst (nI 0) k_57_25 (by decide) ?_
      refine Zp.iret _ k_57_26 vr_57 rfl ?_
      exact zq0 hq (by omega)
    · refine Zp.iload_n k_57_16 rfl ?_
      refine Zp.iload_n k_57_17 rfl ?_
      refine Zp.icmp_eqZ _ _ k_57_18 rfl rfl (fun c_18 => ?_) (fun c_18 => ?_)
      · refine Zp.iconst (nI 0) k_57_25 (by decide) ?_
        refine Zp.iret _ k_57_26 vr_57 rfl ?_
        exact zq0 hq (by omega)
      · refine Zp.iconst (nI 1) k_57_21 (by decide) ?_
        refine Zp.goto k_57_22 ?_
        refine Zp.iret _ k_57_26 vr_57 rfl ?_
        exact zq1 hq (by omega)
theorem c_hatredOf {a b : Nat} (hs : Sa h) (hp : Sp I h S) (ha : a < 5) (hb : b < 5) (hq : Q (some (.int (nI (sht S (a * 5 + b))))) I L) : Zm G 58 [.ref h, .int (nI a), .int (nI b)] I L Q := by
  refine Zm.go [some (.ref _), some (.int _), some (.int _)] vl_58 rfl ?_
  refine Zp.aload_n k_58_0 rfl ?_
  refine Zp.getR k_58_1 rfl (zlt rfl) hs.1 hs.2.2.2.2 ?_
  refine Zp.iload_n k_58_4 rfl ?_
  refine Zp.iconst (nI 5) k_58_5 (by decide) ?_
  refine Zp.imulN k_58_6 ?_
  refine Zp.iload_n k_58_7 rfl ?_
  refine Zp.iaddN k_58_8 ?_
  refine Zp.iald _ k_58_9 hs.2.2.1 rfl (by omega) (zlt rfl) (hp.2.2.2.2.2.2.2 _ (by omega)) ?_
  refine Zp.iret _ k_58_10 vr_58 rfl ?_
  exact hq
theorem c_setHatred {a b : Nat} {x : Int32} (hs : Sa h) (ha : a < 5) (hb : b < 5) (hq : Q none (zpu I (h + 2) (a * 5 + b) x) L) : Zm G 59 [.ref h, .int (nI a), .int (nI b), .int x] I L Q := by
  refine Zm.go [some (.ref _), some (.int _), some (.int _), some (.int _)] vl_59 rfl ?_
  refine Zp.aload_n k_59_0 rfl ?_
  refine Zp.getR k_59_1 rfl (zlt rfl) hs.1 hs.2.2.2.2 ?_
  refine Zp.iload_n k_59_4 rfl ?_
  refine Zp.iconst (nI 5) k_59_5 (by decide) ?_
  refine Zp.imulN k_59_6 ?_
  refine Zp.iload_n k_59_7 rfl ?_
  refine Zp.iaddN k_59_8 ?_
  refine Zp.iload_n k_59_9 rfl ?_
  refine Zp.iast _ k_59_10 hs.2.2.1 rfl (by omega) (zlt rfl) ?_
  refine Zp.vret k_59_11 vr_59 ?_
  exact hq
theorem c_feelingOf {a b : Nat} (hs : Sa h) (hp : Sp I h S) (ho : So S) (ha : a < sn S) (hb : b < sn S) (hq : Q (some (.int (nI (fl S a b)))) I L) : Zm G 60 [.ref h, .int (nI a), .int (nI b)] I L Q := by
  have o1 := ho.1
  have hk := ho.2.2.2.2.2.1 a
  have hj := ho.2.2.2.2.2.2 (a * 5 + b)
  refine Zm.go [some (.ref _), some (.int _), some (.int _), none] vl_60 rfl ?_
  refine Zp.aload_n k_60_0 rfl ?_
  refine Zp.getR k_60_1 rfl (zlt rfl) hs.1 hs.2.2.2.2 ?_
  refine Zp.iload_n k_60_4 rfl ?_
  refine Zp.iconst (nI 5) k_60_5 (by decide) ?_
  refine Zp.imulN k_60_6 ?_
  refine Zp.iload_n k_60_7 rfl ?_
  refine Zp.iaddN k_60_8 ?_
  refine Zp.iald _ k_60_9 hs.2.2.1 rfl (by omega) (zlt rfl) (hp.2.2.2.2.2.2.2 _ (by omega)) ?_
  refine Zp.istore_n [some (.ref _), some (.int _), some (.int _), some (.int _)] k_60_10 (Nat.lt_of_lt_of_eq (zlt rfl : 3 < 4) vl_60.symm) rfl ?_
  refine Zp.aload_n k_60_11 rfl ?_
  refine Zp.getR k_60_12 rfl (zlt rfl) hs.1 hs.2.2.2.1 ?_
  refine Zp.iload_n k_60_15 rfl ?_
  refine Zp.iald _ k_60_16 hs.2.1 rfl (by omega) (zlt rfl) (hp.2.2.2.2.2.2.1 _ (by omega)) ?_
  refine Zp.tabEq _ 1 44 k_60_17 (nI_toInt (by omega)) (by decide) (by decide) rfl (by decide) (fun c_17_1 => ?_) (fun n_17_1 => ?_)
  · refine Zp.iload_n k_60_44 rfl ?_
    refine Zp.if_leN k_60_45 (by omega) (fun c_45 => ?_) (fun c_45 => ?_)
    · refine Zp.iconst (nI 0) k_60_54 (by decide) ?_
      refine Zp.iret _ k_60_55 vr_60 rfl ?_
      refine zqN hq ?_
      rcases (by omega : skd S a = 0 ∨ skd S a = 1 ∨ skd S a = 2 ∨ skd S a = 3) with e | e | e | e <;> simp only [fl, e] <;> (try split) <;> omega
    · refine Zp.iload_n k_60_48 rfl ?_
      refine Zp.iconst (nI 1) k_60_49 (by decide) ?_
      refine Zp.isubN k_60_50 (by omega) ?_
      refine Zp.goto k_60_51 ?_
      refine Zp.iret _ k_60_55 vr_60 rfl ?_
      refine zqN hq ?_
      rcases (by omega : skd S a = 0 ∨ skd S a = 1 ∨ skd S a = 2 ∨ skd S a = 3) with e | e | e | e <;> simp only [fl, e] <;> (try split) <;> omega
  refine Zp.tabEq _ 2 56 k_60_17 (nI_toInt (by omega)) (by decide) (by decide) rfl (by decide) (fun c_17_2 => ?_) (fun n_17_2 => ?_)
  · refine Zp.iload_n k_60_56 rfl ?_
    refine Zp.iconst (nI 3) k_60_57 (by decide) ?_
    refine Zp.icmp_geN k_60_58 (by omega) (by omega) (fun c_58 => ?_) (fun c_58 => ?_)
    · refine Zp.iconst (nI 3) k_60_65 (by decide) ?_
      refine Zp.iret _ k_60_66 vr_60 rfl ?_
      refine zqN hq ?_
      rcases (by omega : skd S a = 0 ∨ skd S a = 1 ∨ skd S a = 2 ∨ skd S a = 3) with e | e | e | e <;> simp only [fl, e] <;> (try split) <;> omega
    · refine Zp.iload_n k_60_61 rfl ?_
      refine Zp.goto k_60_62 ?_
      refine Zp.iret _ k_60_66 vr_60 rfl ?_
      refine zqN hq ?_
      rcases (by omega : skd S a = 0 ∨ skd S a = 1 ∨ skd S a = 2 ∨ skd S a = 3) with e | e | e | e <;> simp only [fl, e] <;> (try split) <;> omega
  refine Zp.tabEq _ 3 67 k_60_17 (nI_toInt (by omega)) (by decide) (by decide) rfl (by decide) (fun c_17_3 => ?_) (fun n_17_3 => ?_)
  · refine Zp.iconst (nI 2) k_60_67 (by decide) ?_
    refine Zp.iload_n k_60_68 rfl ?_
    refine Zp.imulN k_60_69 ?_
    refine Zp.iret _ k_60_70 vr_60 rfl ?_
    refine zqN hq ?_
    rcases (by omega : skd S a = 0 ∨ skd S a = 1 ∨ skd S a = 2 ∨ skd S a = 3) with e | e | e | e <;> simp only [fl, e] <;> (try split) <;> omega
  refine Zp.tabNo _ 71 k_60_17 (nI_toInt (by omega)) (by omega) (by decide) ?_
  refine Zp.iload_n k_60_71 rfl ?_
  refine Zp.iret _ k_60_72 vr_60 rfl ?_
  refine zqN hq ?_
  rcases (by omega : skd S a = 0 ∨ skd S a = 1 ∨ skd S a = 2 ∨ skd S a = 3) with e | e | e | e <;> simp only [fl, e] <;> (try split) <;> omega
theorem c_turnOf {a b : Nat} (hs : Sa h) (hp : Sp I h S) (ho : So S) (ha : a < sn S) (hb : b < sn S) (hq : Q (some (.int (nI (tn S a b)))) I L) : Zm G 61 [.ref h, .int (nI a), .int (nI b)] I L Q := by
  have h1 := fl_le ho a b
  have h2 := fl_le ho b a
  refine Zm.go [some (.ref _), some (.int _), some (.int _)] vl_61 rfl ?_
  refine Zp.aload_n k_61_0 rfl ?_
  refine Zp.iload_n k_61_1 rfl ?_
  refine Zp.iload_n k_61_2 rfl ?_
  refine Zp.callv2I v_60 k_61_3 hs.1 (Nat.le_of_ble_eq_true rfl) (Nat.le_of_ble_eq_true rfl) (c_feelingOf hs hp ho ha hb ⟨_, rfl, ?_⟩)
  refine Zp.aload_n k_61_6 rfl ?_
  refine Zp.iload_n k_61_7 rfl ?_
  refine Zp.iload_n k_61_8 rfl ?_
  refine Zp.callv2I v_60 k_61_9 hs.1 (Nat.le_of_ble_eq_true rfl) (Nat.le_of_ble_eq_true rfl) (c_feelingOf hs hp ho hb ha ⟨_, rfl, ?_⟩)
  refine Zp.mminN k_61_12 (Nat.le_of_ble_eq_true rfl) (by omega) (by omega) ?_
  refine Zp.iret _ k_61_15 vr_61 rfl ?_
  exact hq
theorem c_canBeStirred (hs : Sa h) (hp : Sp I h S) (ho : So S) (hst : sstep S < 2 ^ 30) (hq : Q (some (.int (zbo (sset S = 0 ∧ sstep S < snoon S)))) I L) : Zm G 62 [.ref h] I L Q := by
  obtain ⟨o1, o2, o3, o4, o5, o6, o7⟩ := id ho
  refine Zm.go [some (.ref _)] vl_62 rfl ?_
  refine Zp.aload_n k_62_0 rfl ?_
  refine Zp.getV k_62_1 rfl (zlt rfl) hs.1 hp.2.2.2.2.2.1 ?_
  refine Zp.if_neN k_62_4 (by omega) (fun c_4 => ?_) (fun c_4 => ?_)
  · refine Zp.iconst (nI 0) k_62_22 (by decide) ?_
    refine Zp.iret _ k_62_23 vr_62 rfl ?_
    exact zq0 hq (by omega)
  · refine Zp.aload_n k_62_7 rfl ?_
    refine Zp.getV k_62_8 rfl (zlt rfl) hs.1 hp.2.2.2.1 ?_
    refine Zp.aload_n k_62_11 rfl ?_
    refine Zp.getV k_62_12 rfl (zlt rfl) hs.1 hp.2.2.1 ?_
    refine Zp.icmp_geN k_62_15 (by omega) (by omega) (fun c_15 => ?_) (fun c_15 => ?_)
    · refine Zp.iconst (nI 0) k_62_22 (by decide) ?_
      refine Zp.iret _ k_62_23 vr_62 rfl ?_
      exact zq0 hq (by omega)
    · refine Zp.iconst (nI 1) k_62_18 (by decide) ?_
      refine Zp.goto k_62_19 ?_
      refine Zp.iret _ k_62_23 vr_62 rfl ?_
      exact zq1 hq (by omega)
theorem c_cool {a b : Nat} (hs : Sa h) (hp : Sp I h S) (ho : So S) (hst : sstep S < 2 ^ 30) (ha : a < sn S) (hb : b < sn S) (hq : ∀ I', Sp I' h (coS S a b) → (∀ q, q ≠ h + 2 → I' q = I q) → Q none I' L) : Zm G 64 [.ref h, .int (nI a), .int (nI b)] I L Q := by
  obtain ⟨o1, o2, o3, o4, o5, o6, o7⟩ := id ho
  have hk := o6 a
  have hj := o7 (a * 5 + b)
  refine Zm.go [some (.ref _), some (.int _), some (.int _), none] vl_64 rfl ?_
  refine Zp.iconst (nI 1) k_64_0 (by decide) ?_
  refine Zp.istore_n [some (.ref _), some (.int _), some (.int _), some (.int _)] k_64_1 (Nat.lt_of_lt_of_eq (zlt rfl : 3 < 4) vl_64.symm) rfl ?_
  refine Zp.aload_n k_64_2 rfl ?_
  refine Zp.getR k_64_3 rfl (zlt rfl) hs.1 hs.2.2.2.1 ?_
  refine Zp.iload_n k_64_6 rfl ?_
  refine Zp.iald _ k_64_7 hs.2.1 rfl (by omega) (zlt rfl) (hp.2.2.2.2.2.2.1 _ (by omega)) ?_
  refine Zp.iconst (nI 1) k_64_8 (by decide) ?_
  refine Zp.icmp_neN k_64_9 (by omega) (by omega) (fun c_9 => ?_) (fun c_9 => ?_)
  · refine Zp.aload_n k_64_22 rfl ?_
    refine Zp.getR k_64_23 rfl (zlt rfl) hs.1 hs.2.2.2.1 ?_
    refine Zp.iload_n k_64_26 rfl ?_
    refine Zp.iald _ k_64_27 hs.2.1 rfl (by omega) (zlt rfl) (hp.2.2.2.2.2.2.1 _ (by omega)) ?_
    refine Zp.iconst (nI 3) k_64_28 (by decide) ?_
    refine Zp.icmp_neN k_64_29 (by omega) (by omega) (fun c_29 => ?_) (fun c_29 => ?_)
    · refine Zp.aload_n k_64_34 rfl ?_
      refine Zp.iload_n k_64_35 rfl ?_
      refine Zp.iload_n k_64_36 rfl ?_
      refine Zp.iconst (nI 0) k_64_37 (by decide) ?_
      refine Zp.aload_n k_64_38 rfl ?_
      refine Zp.iload_n k_64_39 rfl ?_
      refine Zp.iload_n k_64_40 rfl ?_
      refine Zp.callv2I v_58 k_64_41 hs.1 (Nat.le_of_ble_eq_true rfl) (Nat.le_of_ble_eq_true rfl) (c_hatredOf hs hp (by omega) (by omega) ⟨_, rfl, ?_⟩)
      refine Zp.iload_n k_64_44 rfl ?_
      refine Zp.isub k_64_45 ?_
      refine Zp.mmax k_64_46 (Nat.le_of_ble_eq_true rfl) ?_
      rw [max0sub (by omega) (by omega)]
      refine Zp.callv3V v_59 k_64_49 hs.1 (Nat.le_of_ble_eq_true rfl) (Nat.le_of_ble_eq_true rfl) (c_setHatred hs (by omega) (by omega) ⟨rfl, ?_⟩)
      refine Zp.vret k_64_52 vr_64 ?_
      refine hq _ ?_ (fun q hne => zpu_q _ _ _ hne)
      unfold coS cby
      exact hp.uh (by congr 1; (repeat' split) <;> omega)
    · refine Zp.iconst (nI 2) k_64_32 (by decide) ?_
      refine Zp.istore_n [some (.ref _), some (.int _), some (.int _), some (.int _)] k_64_33 (Nat.lt_of_lt_of_eq (zlt rfl : 3 < 4) vl_64.symm) rfl ?_
      refine Zp.aload_n k_64_34 rfl ?_
      refine Zp.iload_n k_64_35 rfl ?_
      refine Zp.iload_n k_64_36 rfl ?_
      refine Zp.iconst (nI 0) k_64_37 (by decide) ?_
      refine Zp.aload_n k_64_38 rfl ?_
      refine Zp.iload_n k_64_39 rfl ?_
      refine Zp.iload_n k_64_40 rfl ?_
      refine Zp.callv2I v_58 k_64_41 hs.1 (Nat.le_of_ble_eq_true rfl) (Nat.le_of_ble_eq_true rfl) (c_hatredOf hs hp (by omega) (by omega) ⟨_, rfl, ?_⟩)
      refine Zp.iload_n k_64_44 rfl ?_
      refine Zp.isub k_64_45 ?_
      refine Zp.mmax k_64_46 (Nat.le_of_ble_eq_true rfl) ?_
      rw [max0sub (by omega) (by omega)]
      refine Zp.callv3V v_59 k_64_49 hs.1 (Nat.le_of_ble_eq_true rfl) (Nat.le_of_ble_eq_true rfl) (c_setHatred hs (by omega) (by omega) ⟨rfl, ?_⟩)
      refine Zp.vret k_64_52 vr_64 ?_
      refine hq _ ?_ (fun q hne => zpu_q _ _ _ hne)
      unfold coS cby
      exact hp.uh (by congr 1; (repeat' split) <;> omega)
  · refine Zp.aload_n k_64_12 rfl ?_
    refine Zp.getV k_64_13 rfl (zlt rfl) hs.1 hp.2.2.2.1 ?_
    refine Zp.iconst (nI 2) k_64_16 (by decide) ?_
    refine Zp.iremN k_64_17 (by omega) (by omega) (by omega) ?_
    refine Zp.istore_n [some (.ref _), some (.int _), some (.int _), some (.int _)] k_64_18 (Nat.lt_of_lt_of_eq (zlt rfl : 3 < 4) vl_64.symm) rfl ?_
    refine Zp.goto k_64_19 ?_
    refine Zp.aload_n k_64_34 rfl ?_
    refine Zp.iload_n k_64_35 rfl ?_
    refine Zp.iload_n k_64_36 rfl ?_
    refine Zp.iconst (nI 0) k_64_37 (by decide) ?_
    refine Zp.aload_n k_64_38 rfl ?_
    refine Zp.iload_n k_64_39 rfl ?_
    refine Zp.iload_n k_64_40 rfl ?_
    refine Zp.callv2I v_58 k_64_41 hs.1 (Nat.le_of_ble_eq_true rfl) (Nat.le_of_ble_eq_true rfl) (c_hatredOf hs hp (by omega) (by omega) ⟨_, rfl, ?_⟩)
    refine Zp.iload_n k_64_44 rfl ?_
    refine Zp.isub k_64_45 ?_
    refine Zp.mmax k_64_46 (Nat.le_of_ble_eq_true rfl) ?_
    rw [max0sub (by omega) (by omega)]
    refine Zp.callv3V v_59 k_64_49 hs.1 (Nat.le_of_ble_eq_true rfl) (Nat.le_of_ble_eq_true rfl) (c_setHatred hs (by omega) (by omega) ⟨rfl, ?_⟩)
    refine Zp.vret k_64_52 vr_64 ?_
    refine hq _ ?_ (fun q hne => zpu_q _ _ _ hne)
    unfold coS cby
    exact hp.uh (by congr 1; (repeat' split) <;> omega)
end SOUP
