/-! THE TEXT: numbers, names, what is told; the class's small ways -/
abbrev zFl : Type := Nat × Nat
theorem nv_lt {T : zTp} (to : To T) {s : Nat} : ∀ j, s + j ≤ T.1 → j ≤ 2 → nv T s j < 10000 ∧ (j = 1 → nv T s j < 200)
  | 0, _, _ => ⟨by show 0 < 10000; omega, fun z => absurd z (by decide)⟩
  | j + 1, h1, h2 => by
    have ih := nv_lt to (s := s) j (by omega) (by omega)
    have hb := to.2 (s + j) (by omega)
    have e : nv T s (j + 1) = 10 * nv T s j + (T.2 (s + j) - 48) := rfl
    rcases (by omega : j = 0 ∨ j = 1) with z | z
    · subst z
      have e0 : nv T s 0 = 0 := rfl
      exact ⟨by rw [e, e0]; omega, fun _ => by rw [e, e0]; omega⟩
    · subst z
      have := ih.2 rfl
      exact ⟨by rw [e]; omega, fun z => absurd z (by decide)⟩
/-- a number in its bounds: the fault, or the number and where it ends -/
def rdN (T : zTp) (lo hi p : Nat) : Sum zFl (Nat × Nat) :=
  if (tok T p).1 = 4 then .inl (1, (tok T p).2.1) else if ¬ (tok T p).1 = 1 then .inl (2, (tok T p).2.1)
  else if nv T (tok T p).2.1 ((tok T p).2.2 - (tok T p).2.1) < lo ∨ hi < nv T (tok T p).2.1 ((tok T p).2.2 - (tok T p).2.1) then .inl (3, (tok T p).2.1)
  else .inr (nv T (tok T p).2.1 ((tok T p).2.2 - (tok T p).2.1), (tok T p).2.2)
/-- a helper who is not the one told -/
def rdH (T : zTp) (x : Int) (p : Nat) : Sum zFl (Nat × Nat) := match rdN T 0 4 p with
  | .inl f => .inl f
  | .inr (v, e) => if (v : Int) = x then .inl (3, (tok T p).2.1) else .inr (v, e)
def smc (T : zTp) (p : Nat) : Sum zFl Nat := if (tok T p).1 = 2 then .inr (tok T p).2.2 else .inl (if (tok T p).1 = 4 then 1 else 2, (tok T p).2.1)
theorem rdN_ok {T : zTp} {lo hi p v e : Nat} (hp : p ≤ T.1) (h : rdN T lo hi p = .inr (v, e)) : lo ≤ v ∧ v ≤ hi ∧ p < e ∧ e ≤ T.1 ∧ (tok T p).1 = 1 ∧ (tok T p).2.2 = e ∧ nv T (tok T p).2.1 ((tok T p).2.2 - (tok T p).2.1) = v := by
  have t := tok_ok T hp
  unfold rdN at h
  split at h
  · exact absurd h (by simp)
  · split at h
    · exact absurd h (by simp)
    · split at h
      · exact absurd h (by simp)
      · have h2 := Sum.inr.inj h
        have e1 : nv T (tok T p).2.1 ((tok T p).2.2 - (tok T p).2.1) = v := congrArg Prod.fst h2
        have e2 : (tok T p).2.2 = e := congrArg Prod.snd h2
        have t9 := t.2.2.2.2.2.2.2.2 (by omega)
        refine ⟨by omega, by omega, by omega, by omega, by omega, e2, e1⟩
theorem rdH_ok {T : zTp} {x : Int} {p v e : Nat} (hp : p ≤ T.1) (h : rdH T x p = .inr (v, e)) : v ≤ 4 ∧ p < e ∧ e ≤ T.1 ∧ ¬ (v : Int) = x ∧ rdN T 0 4 p = .inr (v, e) := by
  unfold rdH at h
  cases h1 : rdN T 0 4 p with
  | inl f => rw [h1] at h; exact absurd h (by simp)
  | inr y =>
    rw [h1] at h
    have h2 : (if (y.1 : Int) = x then Sum.inl (3, (tok T p).2.1) else Sum.inr (y.1, y.2)) = (Sum.inr (v, e) : Sum zFl (Nat × Nat)) := h
    split at h2
    · exact absurd h2 (by simp)
    · have h3 := Sum.inr.inj h2
      have e1 : y.1 = v := congrArg Prod.fst h3
      have e2 : y.2 = e := congrArg Prod.snd h3
      have r := rdN_ok hp h1
      subst e1; subst e2
      exact ⟨r.2.1, r.2.2.1, r.2.2.2.1, by assumption, rfl⟩
theorem smc_ok {T : zTp} {p e : Nat} (hp : p ≤ T.1) (h : smc T p = .inr e) : p < e ∧ e ≤ T.1 ∧ (tok T p).1 = 2 ∧ (tok T p).2.2 = e := by
  have t := tok_ok T hp
  unfold smc at h
  split at h
  · have e2 := Sum.inr.inj h
    have t9 := t.2.2.2.2.2.2.2.2 (by omega)
    exact ⟨by omega, by omega, by assumption, e2⟩
  · exact absurd h (by simp)
/-- names -/
def nmP (T : zTp) (s e i : Nat) : Prop := e - s = zslen.getD i 0 ∧ ∀ j, j < zslen.getD i 0 → T.2 (s + j) = sb_ i j
def nmB (T : zTp) (s e i : Nat) : Bool := e - s == zslen.getD i 0 && (List.range (zslen.getD i 0)).all fun j => T.2 (s + j) == sb_ i j
theorem nmB_i {T : zTp} {s e i : Nat} : nmB T s e i = true ↔ nmP T s e i := by
  unfold nmB nmP
  simp
def nmK (T : zTp) (s e : Nat) : Nat := if nmB T s e 0 then 0 else if nmB T s e 1 then 1 else if nmB T s e 2 then 2 else if nmB T s e 3 then 3 else if nmB T s e 4 then 4 else if nmB T s e 5 then 5 else if nmB T s e 6 then 6 else if nmB T s e 7 then 7 else if nmB T s e 8 then 8 else 9
theorem nmK_le (T : zTp) (s e : Nat) : nmK T s e ≤ 9 := by
  unfold nmK
  repeat' split
  all_goals omega
/-- what the class's reader leaves as it is -/
def FrX (I I' : zI) : Prop := (∀ q, q ≠ 15 → q ≠ 29 → I' q = I q) ∧ (∀ j, j ≠ 2 → j ≠ 3 → I' 29 j = I 29 j) ∧ ∀ j, j ≠ 2 → j ≠ 3 → I' 15 j = I 15 j
def FrY (I I' : zI) : Prop := (∀ q, q ≠ 15 → q ≠ 29 → I' q = I q) ∧ (∀ j, j ≠ 2 → j ≠ 3 → I' 29 j = I 29 j) ∧ ∀ j, j ≠ 2 → j ≠ 3 → j ≠ 7 → I' 15 j = I 15 j
theorem FrX.y {I I' : zI} (h : FrX I I') : FrY I I' := ⟨h.1, h.2.1, fun j a b _ => h.2.2 j a b⟩
theorem FrX.tr {I J K : zI} (h : FrX I J) (k : FrX J K) : FrX I K := ⟨fun q a b => (k.1 q a b).trans (h.1 q a b), fun j a b => (k.2.1 j a b).trans (h.2.1 j a b), fun j a b => (k.2.2 j a b).trans (h.2.2 j a b)⟩
theorem FrY.tr {I J K : zI} (h : FrY I J) (k : FrY J K) : FrY I K := ⟨fun q a b => (k.1 q a b).trans (h.1 q a b), fun j a b => (k.2.1 j a b).trans (h.2.1 j a b), fun j a b c => (k.2.2 j a b c).trans (h.2.2 j a b c)⟩
theorem Tp.y {I I' : zI} {T : zTp} (h : Tp I T) (f : FrY I I') : Tp I' T := ⟨(f.2.1 1 (by decide) (by decide)).trans h.1, by rw [f.1 30 (by decide) (by decide)]; exact h.2⟩
section READ5
variable {G : zG} {I : zI} {L : zJ} {Q : zP} {T : zTp} {p s e i : Nat}
theorem c_number (tp : Tp I T) (to : To T) (h2 : I 29 2 = nI s) (h3 : I 29 3 = nI e) (hse : s ≤ e) (he : e ≤ T.1) (hl : e - s ≤ 2) (hd : ∀ i, s ≤ i → i < e → 48 ≤ T.2 i) (hq : Q (some (.int (nI (nv T s (e - s))))) I L) : Zm G 71 [.ref 29] I L Q := by
  obtain ⟨o1, o2⟩ := id to
  have loop : ∀ k j, j + k = e - s → Zp G 71 7 [some (.ref 29), some (.int (nI (nv T s j))), some (.int (nI (s + j)))] [] I L Q := by
    intro k
    induction k with
    | zero =>
      intro j hj
      have ej : j = e - s := by omega
      subst ej
      refine Zp.iload_n k_71_7 rfl ?_
      refine Zp.aload_n k_71_8 rfl ?_
      refine Zp.getV k_71_9 rfl (zlt rfl) m_29 h3 ?_
      refine Zp.icmp_geN k_71_12 (by omega) (by omega) (fun c_12 => ?_) (fun c_12 => absurd c_12 (by omega))
      refine Zp.iload_n k_71_36 rfl ?_
      refine Zp.iret _ k_71_37 vr_71 rfl ?_
      exact hq
    | succ k ih =>
      intro j hj
      have gb := tp.2 (s + j) (by omega)
      have hb := o2 (s + j) (by omega)
      have hd1 := hd (s + j) (by omega) (by omega)
      have hv := (nv_lt to (s := s) j (by omega) (by omega)).1
      have ee : 10 * nv T s j + T.2 (s + j) - 48 = nv T s (j + 1) := by
        show _ = 10 * nv T s j + (T.2 (s + j) - 48)
        omega
      refine Zp.iload_n k_71_7 rfl ?_
      refine Zp.aload_n k_71_8 rfl ?_
      refine Zp.getV k_71_9 rfl (zlt rfl) m_29 h3 ?_
      refine Zp.icmp_geN k_71_12 (by omega) (by omega) (fun c_12 => absurd c_12 (by omega)) (fun c_12 => ?_)
      refine Zp.bipush (nI 10) k_71_15 (by decide) ?_
      refine Zp.iload_n k_71_17 rfl ?_
      refine Zp.imulN k_71_18 ?_
      refine Zp.aload_n k_71_19 rfl ?_
      refine Zp.getR k_71_20 rfl (zlt rfl) m_29 r_29_0 ?_
      refine Zp.iload_n k_71_23 rfl ?_
      refine Zp.bald _ k_71_24 m_30 rfl (by omega) (zlt rfl) gb ?_
      refine Zp.iaddN k_71_25 ?_
      refine Zp.bipush (nI 48) k_71_26 (by decide) ?_
      refine Zp.isubN k_71_28 (by omega) ?_
      rw [ee]
      refine Zp.istore_n [some (.ref _), some (.int _), some (.int _)] k_71_29 (Nat.lt_of_lt_of_eq (zlt rfl : 1 < 3) vl_71.symm) rfl ?_
      refine Zp.iinc (nI (_ + 1)) [some (.ref _), some (.int _), some (.int _)] k_71_30 rfl (nI_1 _) (Nat.lt_of_lt_of_eq (zlt rfl : 2 < 3) vl_71.symm) rfl ?_
      refine Zp.goto k_71_33 ?_
      exact ih (j + 1) (by omega)
  refine Zm.go [some (.ref _), none, none] vl_71 rfl ?_
  refine Zp.iconst (nI 0) k_71_0 (by decide) ?_
  refine Zp.istore_n [some (.ref _), some (.int _), none] k_71_1 (Nat.lt_of_lt_of_eq (zlt rfl : 1 < 3) vl_71.symm) rfl ?_
  refine Zp.aload_n k_71_2 rfl ?_
  refine Zp.getV k_71_3 rfl (zlt rfl) m_29 h2 ?_
  refine Zp.istore_n [some (.ref _), some (.int _), some (.int _)] k_71_6 (Nat.lt_of_lt_of_eq (zlt rfl : 2 < 3) vl_71.symm) rfl ?_
  exact loop (e - s) 0 (by omega)
theorem c_isName (tp : Tp I T) (to : To T) (h2 : I 29 2 = nI s) (h3 : I 29 3 = nI e) (hse : s ≤ e) (he : e ≤ T.1) (hi : i < 9) (hq : ∀ c, c ≤ 1 → (c = 1 ↔ nmB T s e i = true) → Q (some (.int (nI c))) I L) : Zm G 72 [.ref 29, .ref (1000001 + i)] I L Q := by
  obtain ⟨o1, o2⟩ := id to
  obtain ⟨l1, l2, l3⟩ := sl_at i hi
  have hn := nmB_i (T := T) (s := s) (e := e) (i := i)
  have no : ¬ nmP T s e i → Q (some (.int (nI 0))) I L := fun h => hq 0 (by decide) ⟨fun z => absurd z (by decide), fun z => absurd (hn.mp z) h⟩
  have loop : e - s = zslen.getD i 0 → ∀ k j, j + k = zslen.getD i 0 → (∀ m, m < j → T.2 (s + m) = sb_ i m) → Zp G 72 20 [some (.ref 29), some (.ref (1000001 + i)), some (.int (nI j))] [] I L Q := by
    intro hl k
    induction k with
    | zero =>
      intro j hj hm
      have ej : j = zslen.getD i 0 := by omega
      refine Zp.iload_n k_72_20 rfl ?_
      refine Zp.aload_n k_72_21 rfl ?_
      refine Zp.callT0 hi vs_231 rfl k_72_22 (Nat.le_of_ble_eq_true rfl) (Nat.le_of_ble_eq_true rfl) (c_length hi ⟨_, rfl, ?_⟩)
      refine Zp.icmp_geN k_72_25 (by omega) (by omega) (fun _ => ?_) (fun c => absurd c (by omega))
      refine Zp.iconst (nI 1) k_72_55 (by decide) ?_
      exact Zp.iret _ k_72_56 vr_72 rfl (hq 1 (by decide) ⟨fun _ => hn.mpr ⟨hl, fun m hm2 => hm m (by omega)⟩, fun _ => rfl⟩)
    | succ k ih =>
      intro j hj hm
      have hjl : j < zslen.getD i 0 := by omega
      have gb := tp.2 (s + j) (by omega)
      have hb := o2 (s + j) (by omega)
      obtain ⟨s1, s2, s3⟩ := sbN_at i hi j hjl
      refine Zp.iload_n k_72_20 rfl ?_
      refine Zp.aload_n k_72_21 rfl ?_
      refine Zp.callT0 hi vs_231 rfl k_72_22 (Nat.le_of_ble_eq_true rfl) (Nat.le_of_ble_eq_true rfl) (c_length hi ⟨_, rfl, ?_⟩)
      refine Zp.icmp_geN k_72_25 (by omega) (by omega) (fun c => absurd c (by omega)) (fun _ => ?_)
      refine Zp.aload_n k_72_28 rfl ?_
      refine Zp.getR k_72_29 rfl (zlt rfl) m_29 r_29_0 ?_
      refine Zp.aload_n k_72_32 rfl ?_
      refine Zp.getV k_72_33 rfl (zlt rfl) m_29 h2 ?_
      refine Zp.iload_n k_72_36 rfl ?_
      refine Zp.iaddN k_72_37 ?_
      refine Zp.bald _ k_72_38 m_30 rfl (by omega) (zlt rfl) gb ?_
      refine Zp.aload_n k_72_39 rfl ?_
      refine Zp.iload_n k_72_40 rfl ?_
      refine Zp.callT1 hi vs_232 rfl k_72_41 (Nat.le_of_ble_eq_true rfl) (Nat.le_of_ble_eq_true rfl) (c_charAt hi hjl ⟨_, rfl, ?_⟩)
      refine Zp.icmp_eqN k_72_44 (by omega) (by omega) (fun c => ?_) (fun c => ?_)
      · refine Zp.iinc (nI (_ + 1)) [some (.ref _), some (.ref _), some (.int _)] k_72_49 rfl (nI_1 _) (Nat.lt_of_lt_of_eq (zlt rfl : 2 < 3) vl_72.symm) rfl ?_
        refine Zp.goto k_72_52 ?_
        exact ih (j + 1) (by omega) (fun m hm2 => by
          rcases (by omega : m < j ∨ m = j) with z | z
          · exact hm m z
          · subst z; exact c)
      · refine Zp.iconst (nI 0) k_72_47 (by decide) ?_
        exact Zp.iret _ k_72_48 vr_72 rfl (no (fun z => c (z.2 j hjl)))
  refine Zm.go [some (.ref _), some (.ref _), none] vl_72 rfl ?_
  refine Zp.aload_n k_72_0 rfl ?_
  refine Zp.getV k_72_1 rfl (zlt rfl) m_29 h3 ?_
  refine Zp.aload_n k_72_4 rfl ?_
  refine Zp.getV k_72_5 rfl (zlt rfl) m_29 h2 ?_
  refine Zp.isubN k_72_8 (by omega) ?_
  refine Zp.aload_n k_72_9 rfl ?_
  refine Zp.callT0 hi vs_231 rfl k_72_10 (Nat.le_of_ble_eq_true rfl) (Nat.le_of_ble_eq_true rfl) (c_length hi ⟨_, rfl, ?_⟩)
  refine Zp.icmp_eqN k_72_13 (by omega) (by omega) (fun c => ?_) (fun c => ?_)
  · refine Zp.iconst (nI 0) k_72_18 (by decide) ?_
    refine Zp.istore_n [some (.ref _), some (.ref _), some (.int _)] k_72_19 (Nat.lt_of_lt_of_eq (zlt rfl : 2 < 3) vl_72.symm) rfl ?_
    exact loop c (zslen.getD i 0) 0 (by omega) (fun m hm => absurd hm (Nat.not_lt_zero m))
  · refine Zp.iconst (nI 0) k_72_16 (by decide) ?_
    exact Zp.iret _ k_72_17 vr_72 rfl (no (fun z => c z.1))
theorem c_fails {c : Nat} (h2 : I 29 2 = nI s) (hq : ∀ I', I' 15 2 = nI c → I' 15 3 = nI s → FrX I I' → Q (some (.int (nI 0))) I' L) : Zm G 25 [.ref 15, .int (nI c)] I L Q := by
  refine Zm.go [some (.ref _), some (.int _)] vl_25 rfl ?_
  refine Zp.aload_n k_25_0 rfl ?_
  refine Zp.iload_n k_25_1 rfl ?_
  refine Zp.putI k_25_2 rfl (zlt rfl) m_15 ?_
  refine Zp.aload_n k_25_5 rfl ?_
  refine Zp.aload_n k_25_6 rfl ?_
  refine Zp.getR k_25_7 rfl (zlt rfl) m_15 r_15_4 ?_
  refine Zp.getV k_25_10 rfl (zlt rfl) m_29 ((congrFun (zpu_q I _ _ (by decide)) _).trans h2) ?_
  refine Zp.putI k_25_13 rfl (zlt rfl) m_15 ?_
  refine Zp.iconst (nI 0) k_25_16 (by decide) ?_
  refine Zp.iret _ k_25_17 vr_25 rfl ?_
  exact hq _ (by rw [zpu_k _ _ _ (by decide), zpu_s]) (zpu_s _ _ _ _) ⟨fun q a b => by rw [zpu_q _ _ _ a, zpu_q _ _ _ a], fun j a b => by rw [zpu_q _ _ _ (by decide), zpu_q _ _ _ (by decide)], fun j a b => by rw [zpu_k _ _ _ b, zpu_k _ _ _ a]⟩
theorem tok1_dg {T : zTp} {p : Nat} (h : (tok T p).1 = 1) : (tok T p).2.2 - (tok T p).2.1 ≤ 2 ∧ ∀ i, (tok T p).2.1 ≤ i → i < (tok T p).2.2 → 48 ≤ T.2 i ∧ T.2 i ≤ 57 := by
  unfold tok at h ⊢
  split at h
  · exact absurd h (show ¬ 3 = 1 by decide)
  · split at h
    · exact absurd h (show ¬ 2 = 1 by decide)
    · split at h
      · exfalso
        have h9 : (if 0 < rn T isNm T.1 (tks T p) - tks T p then 0 else 4) = 1 := h
        split at h9 <;> omega
      · rename_i w1 w2 w3
        rw [if_neg w1, if_neg w2, if_neg w3]
        have h9 : (if 0 < rn T isDg T.1 (tks T p) - tks T p ∧ rn T isDg T.1 (tks T p) - tks T p ≤ 2 then 1 else 4) = 1 := h
        split at h9
        · rename_i w4
          exact ⟨w4.2, fun i h1 h2 => isDg_i.mp (rn_all T isDg T.1 (tks T p) i h1 h2).1⟩
        · omega
theorem c_readNumberC {lo hi : Nat} (tp : Tp I T) (to : To T) (hp : p ≤ T.1) (h3 : I 29 3 = nI p) (hlo : lo < 200) (hhi : hi < 200)
    (hbad : ∀ c s I', rdN T lo hi p = .inl (c, s) → I' 15 2 = nI c → I' 15 3 = nI s → FrX I I' → Q (some (.int (-1))) I' L)
    (hok : ∀ v e I', rdN T lo hi p = .inr (v, e) → I' 29 2 = nI (tok T p).2.1 → I' 29 3 = nI e → FrX I I' → I' 15 = I 15 → Q (some (.int (nI v))) I' L) : Zm G 23 [.ref 15, .int (nI lo), .int (nI hi)] I L Q := by
  have t := tok_ok T hp
  have o1 := to.1
  have fin : ∀ (I3 : zI) (v5 : Option Value) (u : Nat), Q (some (.int (-1))) I3 L → Zp G 23 27 [some (.ref 15), some (.int (nI lo)), some (.int (nI hi)), some (.int (nI u)), none] [.int (nI 0)] I3 L Q := by
    intro I3 v5 u h
    refine Zp.pop k_23_27 rfl ?_
    refine Zp.iconst (-1) k_23_28 (by decide) ?_
    refine Zp.iret _ k_23_29 vr_23 rfl ?_
    exact h
  have fin3 : ∀ (I3 : zI) (u w : Nat), Q (some (.int (-1))) I3 L → Zp G 23 56 [some (.ref 15), some (.int (nI lo)), some (.int (nI hi)), some (.int (nI u)), some (.int (nI w))] [.int (nI 0)] I3 L Q := by
    intro I3 u w h
    refine Zp.pop k_23_56 rfl ?_
    refine Zp.iconst (-1) k_23_57 (by decide) ?_
    refine Zp.iret _ k_23_58 vr_23 rfl ?_
    exact h
  refine Zm.go [some (.ref _), some (.int _), some (.int _), none, none] vl_23 rfl ?_
  refine Zp.aload_n k_23_0 rfl ?_
  refine Zp.getR k_23_1 rfl (zlt rfl) m_15 r_15_4 ?_
  refine Zp.callv0I v_70 k_23_4 m_29 (Nat.le_of_ble_eq_true rfl) (Nat.le_of_ble_eq_true rfl) (c_readToken tp to hp h3 (fun I2 g2 g3 gj gq => ⟨_, rfl, ?_⟩))
  have fx : FrX I I2 := ⟨fun q a b => gq q b, fun j a b => gj j a b, fun j a b => by rw [gq 15 (by decide)]⟩
  refine Zp.istore_n [some (.ref _), some (.int _), some (.int _), some (.int _), none] k_23_7 (Nat.lt_of_lt_of_eq (zlt rfl : 3 < 5) vl_23.symm) rfl ?_
  refine Zp.iload_n k_23_8 rfl ?_
  refine Zp.iconst (nI 1) k_23_9 (by decide) ?_
  refine Zp.icmp_eqN k_23_10 (by omega) (by omega) (fun c_10 => ?_) (fun c_10 => ?_)
  · obtain ⟨d1, d2⟩ := tok1_dg (T := T) (p := p) (by omega)
    have dv := (nv_lt to (s := (tok T p).2.1) ((tok T p).2.2 - (tok T p).2.1) (by omega) d1).1
    refine Zp.aload_n k_23_30 rfl ?_
    refine Zp.getR k_23_31 rfl (zlt rfl) m_15 r_15_4 ?_
    refine Zp.callv0I v_71 k_23_34 m_29 (Nat.le_of_ble_eq_true rfl) (Nat.le_of_ble_eq_true rfl) (c_number (s := (tok T p).2.1) (e := (tok T p).2.2) ⟨(gj 1 (by decide) (by decide)).trans tp.1, by rw [gq 30 (by decide)]; exact tp.2⟩ to g2 g3 (by omega) (by omega) d1 (fun i a b => (d2 i a b).1) ⟨_, rfl, ?_⟩)
    refine Zp.istore [some (.ref _), some (.int _), some (.int _), some (.int _), some (.int _)] k_23_37 (Nat.lt_of_lt_of_eq (zlt rfl : 4 < 5) vl_23.symm) rfl ?_
    refine Zp.iload k_23_39 rfl ?_
    refine Zp.iload_n k_23_41 rfl ?_
    refine Zp.icmp_ltN k_23_42 (by omega) (by omega) (fun c_42 => ?_) (fun c_42 => ?_)
    · refine Zp.aload_n k_23_51 rfl ?_
      refine Zp.iconst (nI 3) k_23_52 (by decide) ?_
      refine Zp.callv1I v_25 k_23_53 m_15 (Nat.le_of_ble_eq_true rfl) (Nat.le_of_ble_eq_true rfl) (c_fails g2 (fun I3 a b f3 => ⟨_, rfl, fin3 I3 _ _ (hbad _ _ I3 (by unfold rdN; rw [if_neg (by omega), if_neg (by omega), if_pos (by omega)]) a b (fx.tr f3))⟩))
      
    · refine Zp.iload k_23_45 rfl ?_
      refine Zp.iload_n k_23_47 rfl ?_
      refine Zp.icmp_leN k_23_48 (by omega) (by omega) (fun c_48 => ?_) (fun c_48 => ?_)
      · refine Zp.iload k_23_59 rfl ?_
        refine Zp.iret _ k_23_61 vr_23 rfl ?_
        exact hok _ _ I2 (by unfold rdN; rw [if_neg (by omega), if_neg (by omega), if_neg (by omega)]) g2 g3 fx (gq 15 (by decide))
      · refine Zp.aload_n k_23_51 rfl ?_
        refine Zp.iconst (nI 3) k_23_52 (by decide) ?_
        refine Zp.callv1I v_25 k_23_53 m_15 (Nat.le_of_ble_eq_true rfl) (Nat.le_of_ble_eq_true rfl) (c_fails g2 (fun I3 a b f3 => ⟨_, rfl, fin3 I3 _ _ (hbad _ _ I3 (by unfold rdN; rw [if_neg (by omega), if_neg (by omega), if_pos (by omega)]) a b (fx.tr f3))⟩))
        
  · refine Zp.aload_n k_23_13 rfl ?_
    refine Zp.iload_n k_23_14 rfl ?_
    refine Zp.iconst (nI 4) k_23_15 (by decide) ?_
    refine Zp.icmp_neN k_23_16 (by omega) (by omega) (fun c_16 => ?_) (fun c_16 => ?_)
    · refine Zp.iconst (nI 2) k_23_23 (by decide) ?_
      refine Zp.callv1I v_25 k_23_24 m_15 (Nat.le_of_ble_eq_true rfl) (Nat.le_of_ble_eq_true rfl) (c_fails g2 (fun I3 a b f3 => ⟨_, rfl, fin I3 none _ (hbad _ _ I3 (by first | exact if_pos (by omega) | (unfold rdN; rw [if_neg (by omega), if_pos (by omega)])) a b (fx.tr f3))⟩))
      
    · refine Zp.iconst (nI 1) k_23_19 (by decide) ?_
      refine Zp.goto k_23_20 ?_
      refine Zp.callv1I v_25 k_23_24 m_15 (Nat.le_of_ble_eq_true rfl) (Nat.le_of_ble_eq_true rfl) (c_fails g2 (fun I3 a b f3 => ⟨_, rfl, fin I3 none _ (hbad _ _ I3 (by first | exact if_pos (by omega) | (unfold rdN; rw [if_neg (by omega), if_pos (by omega)])) a b (fx.tr f3))⟩))
      
theorem c_readHelperC {x : Int32} {h1 : Nat} (tp : Tp I T) (to : To T) (hp : p ≤ T.1) (h3 : I 29 3 = nI p) (h7 : (I 15 7).toInt = (h1 : Int) - 1) (hh : h1 ≤ 5)
    (hbad : ∀ c s I', rdH T x.toInt p = .inl (c, s) → I' 15 2 = nI c → I' 15 3 = nI s → FrY I I' → Q (some (.int (-1))) I' L)
    (hok : ∀ v e I', rdH T x.toInt p = .inr (v, e) → I' 29 2 = nI (tok T p).2.1 → I' 29 3 = nI e → (I' 15 7).toInt = ((max h1 (v + 1) : Nat) : Int) - 1 → FrY I I' → I' 15 2 = I 15 2 → Q (some (.int (nI v))) I' L) : Zm G 22 [.ref 15, .int x] I L Q := by
  have t := tok_ok T hp
  have bad : ∀ c s I2, rdN T 0 4 p = .inl (c, s) → I2 15 2 = nI c → I2 15 3 = nI s → FrX I I2 → Zp G 22 6 [some (.ref 15), some (.int x), none] [.int (-1)] I2 L Q := by
    intro c s I2 hr a b f2
    have e1 : rdH T x.toInt p = .inl (c, s) := by unfold rdH; rw [hr]
    refine Zp.istore_n [some (.ref _), some (.int _), some (.int _)] k_22_6 (Nat.lt_of_lt_of_eq (zlt rfl : 2 < 3) vl_22.symm) rfl ?_
    refine Zp.iload_n k_22_7 rfl ?_
    refine Zp.if_ltZ (-1) k_22_8 (by decide) (fun c_8 => ?_) (fun c_8 => absurd c_8 (by omega))
    refine Zp.aload_n k_22_24 rfl ?_
    refine Zp.aload_n k_22_25 rfl ?_
    refine Zp.getI k_22_26 rfl (zlt rfl) m_15 ?_
    refine Zp.iload_n k_22_29 rfl ?_
    refine Zp.mmax k_22_30 (Nat.le_of_ble_eq_true rfl) ?_
    refine Zp.putI k_22_33 rfl (zlt rfl) m_15 ?_
    refine Zp.iload_n k_22_36 rfl ?_
    refine Zp.iret _ k_22_37 vr_22 rfl ?_
    exact hbad c s _ e1 (by rw [zpu_k _ _ _ (by decide)]; exact a) (by rw [zpu_k _ _ _ (by decide)]; exact b) ⟨fun q h h2 => by rw [zpu_q _ _ _ h]; exact f2.1 q h h2, fun j h h2 => by rw [zpu_q _ _ _ (by decide)]; exact f2.2.1 j h h2, fun j h h2 h3 => by rw [zpu_k _ _ _ h3]; exact f2.2.2 j h h2⟩
  have ok : ∀ v e I2, rdN T 0 4 p = .inr (v, e) → I2 29 2 = nI (tok T p).2.1 → I2 29 3 = nI e → FrX I I2 → I2 15 = I 15 → Zp G 22 6 [some (.ref 15), some (.int x), none] [.int (nI v)] I2 L Q := by
    intro v e I2 hr g2 g3 f2 g15
    obtain ⟨r1, r2, r3, r4, r5⟩ := rdN_ok hp hr
    have e1 : rdH T x.toInt p = if (v : Int) = x.toInt then .inl (3, (tok T p).2.1) else .inr (v, e) := by unfold rdH; rw [hr]
    have fin : ∀ I3 : zI, Q (some (.int (-1))) I3 L → Zp G 22 21 [some (.ref 15), some (.int x), some (.int (nI v))] [.int (nI 0)] I3 L Q := by
      intro I3 h
      refine Zp.pop k_22_21 rfl ?_
      refine Zp.iconst (-1) k_22_22 (by decide) ?_
      refine Zp.iret _ k_22_23 vr_22 rfl ?_
      exact h
    have h71 : (I2 15 7).toInt = (h1 : Int) - 1 := by rw [g15]; exact h7
    have hmx : (if I2 15 7 < nI v then nI v else I2 15 7).toInt = ((max h1 (v + 1) : Nat) : Int) - 1 := by
      have ev := nI_toInt (n := v) (by omega)
      split
      · rename_i z
        have := Int32.lt_iff_toInt_lt.mp z
        omega
      · rename_i z
        have z2 : ¬ (I2 15 7).toInt < (nI v).toInt := fun w => z (Int32.lt_iff_toInt_lt.mpr w)
        rw [ev] at z2
        omega
    refine Zp.istore_n [some (.ref _), some (.int _), some (.int _)] k_22_6 (Nat.lt_of_lt_of_eq (zlt rfl : 2 < 3) vl_22.symm) rfl ?_
    refine Zp.iload_n k_22_7 rfl ?_
    refine Zp.if_ltN k_22_8 (by omega) ?_
    refine Zp.iload_n k_22_11 rfl ?_
    refine Zp.iload_n k_22_12 rfl ?_
    refine Zp.icmp_neZ _ _ k_22_13 (nI_toInt (by omega)) rfl (fun c_13 => ?_) (fun c_13 => ?_)
    · refine Zp.aload_n k_22_24 rfl ?_
      refine Zp.aload_n k_22_25 rfl ?_
      refine Zp.getI k_22_26 rfl (zlt rfl) m_15 ?_
      refine Zp.iload_n k_22_29 rfl ?_
      refine Zp.mmax k_22_30 (Nat.le_of_ble_eq_true rfl) ?_
      refine Zp.putI k_22_33 rfl (zlt rfl) m_15 ?_
      refine Zp.iload_n k_22_36 rfl ?_
      refine Zp.iret _ k_22_37 vr_22 rfl ?_
      exact hok v e _ (by rw [e1, if_neg (by omega)]) (by rw [zpu_q _ _ _ (by decide)]; exact g2) (by rw [zpu_q _ _ _ (by decide)]; exact g3) (by rw [zpu_s]; exact hmx) ⟨fun q h h2 => by rw [zpu_q _ _ _ h]; exact f2.1 q h h2, fun j h h2 => by rw [zpu_q _ _ _ (by decide)]; exact f2.2.1 j h h2, fun j h h2 h3 => by rw [zpu_k _ _ _ h3]; exact f2.2.2 j h h2⟩ (by rw [zpu_k _ _ _ (by decide), g15])
    · refine Zp.aload_n k_22_16 rfl ?_
      refine Zp.iconst (nI 3) k_22_17 (by decide) ?_
      refine Zp.callv1I v_25 k_22_18 m_15 (Nat.le_of_ble_eq_true rfl) (Nat.le_of_ble_eq_true rfl) (c_fails g2 (fun I3 a b f3 => ⟨_, rfl, fin I3 (hbad _ _ I3 (by rw [e1, if_pos (by omega)]) a b (f2.tr f3).y)⟩))
      
  refine Zm.go [some (.ref _), some (.int _), none] vl_22 rfl ?_
  refine Zp.aload_n k_22_0 rfl ?_
  refine Zp.iconst (nI 0) k_22_1 (by decide) ?_
  refine Zp.iconst (nI 4) k_22_2 (by decide) ?_
  refine Zp.callv2I v_23 k_22_3 m_15 (Nat.le_of_ble_eq_true rfl) (Nat.le_of_ble_eq_true rfl) (c_readNumberC tp to hp h3 (by decide) (by decide) (fun c s I2 hr a b f2 => ⟨_, rfl, bad c s I2 hr a b f2⟩) (fun v e I2 hr g2 g3 f2 g15 => ⟨_, rfl, ok v e I2 hr g2 g3 f2 g15⟩))
  
theorem c_readSemiC (tp : Tp I T) (to : To T) (hp : p ≤ T.1) (h3 : I 29 3 = nI p)
    (hbad : ∀ c s I', smc T p = .inl (c, s) → I' 15 2 = nI c → I' 15 3 = nI s → FrX I I' → Q (some (.int (nI 0))) I' L)
    (hok : ∀ e I', smc T p = .inr e → I' 29 3 = nI e → FrX I I' → I' 15 = I 15 → Q (some (.int (nI 1))) I' L) : Zm G 24 [.ref 15] I L Q := by
  have t := tok_ok T hp
  have fin : ∀ (I3 : zI) (u : Nat), Q (some (.int (nI 0))) I3 L → Zp G 24 29 [some (.ref 15), some (.int (nI u))] [.int (nI 0)] I3 L Q := by
    intro I3 u h
    refine Zp.iret _ k_24_29 vr_24 rfl ?_
    exact h
  refine Zm.go [some (.ref _), none] vl_24 rfl ?_
  refine Zp.aload_n k_24_0 rfl ?_
  refine Zp.getR k_24_1 rfl (zlt rfl) m_15 r_15_4 ?_
  refine Zp.callv0I v_70 k_24_4 m_29 (Nat.le_of_ble_eq_true rfl) (Nat.le_of_ble_eq_true rfl) (c_readToken tp to hp h3 (fun I2 g2 g3 gj gq => ⟨_, rfl, ?_⟩))
  have fx : FrX I I2 := ⟨fun q a b => gq q b, fun j a b => gj j a b, fun j a b => by rw [gq 15 (by decide)]⟩
  refine Zp.istore_n [some (.ref _), some (.int _)] k_24_7 (Nat.lt_of_lt_of_eq (zlt rfl : 1 < 2) vl_24.symm) rfl ?_
  refine Zp.iload_n k_24_8 rfl ?_
  refine Zp.iconst (nI 2) k_24_9 (by decide) ?_
  refine Zp.icmp_neN k_24_10 (by omega) (by omega) (fun c_10 => ?_) (fun c_10 => ?_)
  · refine Zp.aload_n k_24_15 rfl ?_
    refine Zp.iload_n k_24_16 rfl ?_
    refine Zp.iconst (nI 4) k_24_17 (by decide) ?_
    refine Zp.icmp_neN k_24_18 (by omega) (by omega) (fun c_18 => ?_) (fun c_18 => ?_)
    · refine Zp.iconst (nI 2) k_24_25 (by decide) ?_
      refine Zp.callv1I v_25 k_24_26 m_15 (Nat.le_of_ble_eq_true rfl) (Nat.le_of_ble_eq_true rfl) (c_fails g2 (fun I3 a b f3 => ⟨_, rfl, fin I3 _ (hbad _ _ I3 (by unfold smc; rw [if_neg (by omega)]; first | rw [if_pos (by omega)] | rw [if_neg (by omega)]) a b (fx.tr f3))⟩))
      
    · refine Zp.iconst (nI 1) k_24_21 (by decide) ?_
      refine Zp.goto k_24_22 ?_
      refine Zp.callv1I v_25 k_24_26 m_15 (Nat.le_of_ble_eq_true rfl) (Nat.le_of_ble_eq_true rfl) (c_fails g2 (fun I3 a b f3 => ⟨_, rfl, fin I3 _ (hbad _ _ I3 (by unfold smc; rw [if_neg (by omega)]; first | rw [if_pos (by omega)] | rw [if_neg (by omega)]) a b (fx.tr f3))⟩))
      
  · refine Zp.iconst (nI 1) k_24_13 (by decide) ?_
    refine Zp.iret _ k_24_14 vr_24 rfl ?_
    exact hok _ I2 (if_pos (by omega)) g3 fx (gq 15 (by decide))
end READ5
