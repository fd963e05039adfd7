/-! PAIRS FOR SPOONS: the class seeks; the reference -/
section MATCH1
variable {G : zG} {A : zQs} {I : zI} {L : zJ} {Q : zP} {S : zSo} {m code : Nat}
theorem rch_lt {a : Nat} (h : a < m) : rch m code a < m - a := Nat.mod_lt _ (by omega)
/-- the class's best so far -/
def MB (I : zI) (m : Nat) (o : Option (List Nat × Nat)) : Prop := I 54 0 = bsV o ∧ ∀ x s, o = some (x, s) → ∀ a, a < m → I 55 a = vM (x.getD a 0)
theorem bsV_t {o : Option (List Nat × Nat)} (h : ∀ x s, o = some (x, s) → s < 1000) : (bsV o).toInt = -1 ∧ o = none ∨ ∃ x s, o = some (x, s) ∧ (bsV o).toInt = s := by
  cases o with
  | none => exact Or.inl ⟨by decide, rfl⟩
  | some y => exact Or.inr ⟨y.1, y.2, rfl, nI_toInt (by have := h y.1 y.2 rfl; omega)⟩
theorem bst_lt {S : zSo} (ho : So S) (l : List (List Nat)) : ∀ x s, bst S l = some (x, s) → s < 1000 := by
  have o1 := ho.1
  have step : ∀ (l : List (List Nat)) (o : Option (List Nat × Nat)), (∀ x s, o = some (x, s) → s < 1000) → ∀ x s, l.foldl (bsp S) o = some (x, s) → s < 1000 := by
    intro l
    induction l with
    | nil => intro o ho2; exact ho2
    | cons y t ih =>
      intro o ho2
      refine ih _ ?_
      have hb := sm_le (f := ctr S fun a => y.getD a 0) (m := 18) (ctr_le ho _) (sn S)
      intro x s hx
      unfold bsp at hx
      split at hx
      · have := Option.some.inj hx
        have e : sm (ctr S fun a => y.getD a 0) (sn S) = s := congrArg Prod.snd this
        omega
      · rename_i z u
        split at hx
        · have := Option.some.inj hx
          have e : sm (ctr S fun a => y.getD a 0) (sn S) = s := congrArg Prod.snd this
          omega
        · have := Option.some.inj hx
          have e : u = s := congrArg Prod.snd this
          have := ho2 z u rfl
          omega
  exact step l none (fun x s h => absurd h (by simp))
theorem bsp_more {S : zSo} {o : Option (List Nat × Nat)} {x : List Nat} (h : (bsV o).toInt < sm (ctr S fun a => x.getD a 0) (sn S)) (ho : ∀ x s, o = some (x, s) → s < 1000) : bsp S o x = some (x, sm (ctr S fun a => x.getD a 0) (sn S)) := by
  cases o with
  | none => rfl
  | some y =>
    have := ho y.1 y.2 rfl
    have e : (bsV (some y)).toInt = y.2 := nI_toInt (by omega)
    show (if y.2 < _ then _ else _) = _
    rw [if_pos (by omega)]
theorem bsp_less {S : zSo} {o : Option (List Nat × Nat)} {x : List Nat} (h : ¬ (bsV o).toInt < sm (ctr S fun a => x.getD a 0) (sn S)) (ho : ∀ x s, o = some (x, s) → s < 1000) : bsp S o x = o := by
  cases o with
  | none => exact absurd (show (bsV none).toInt < _ by rw [show (bsV none).toInt = -1 by decide]; omega) h
  | some y =>
    have := ho y.1 y.2 rfl
    have e : (bsV (some y)).toInt = y.2 := nI_toInt (by omega)
    show (if y.2 < _ then _ else _) = _
    rw [if_neg (by omega)]
theorem c_seek (hp : Sp I 2 S) (ho : So S) (hq : ∀ I', MB I' (sn S) (bst S (mateL (sn S))) → (∀ q, q < 54 ∨ 57 < q → I' q = I q) → Q none I' L) : Zm G 4 [.ref 54, .ref 2] I L Q := by
  have o1 := ho.1
  have hft := fct_le (sn S) (by omega)
  have loop : ∀ k i (I1 : zI), i + k = fct (sn S) → MB I1 (sn S) (bst S ((List.range i).filterMap (mtC (sn S)))) → (∀ q, q < 54 ∨ 57 < q → I1 q = I q) → Zp G 4 31 [some (.ref 54), some (.ref 2), some (.int (nI (fct (sn S)))), some (.int (nI i))] [] I1 L Q := by
    intro k
    induction k with
    | zero =>
      intro i I1 hi hb fr
      have e : i = fct (sn S) := by omega
      subst e
      refine Zp.iload_n k_4_31 rfl ?_
      refine Zp.iload_n k_4_32 rfl ?_
      refine Zp.icmp_geN k_4_33 (by omega) (by omega) (fun c_33 => ?_) (fun c_33 => absurd c_33 (by omega))
      refine Zp.vret k_4_67 vr_4 ?_
      exact hq I1 hb fr
    | succ k ih =>
      intro i I1 hi hb fr
      have hp1 : Sp I1 2 S := hp.fr (fr 2 (by decide)) (fr 3 (by decide)) (fr 4 (by decide))
      have blt := bst_lt ho ((List.range i).filterMap (mtC (sn S)))
      have nx : ∀ I2 : zI, MB I2 (sn S) (bst S ((List.range (i + 1)).filterMap (mtC (sn S)))) → (∀ q, q < 54 ∨ 57 < q → I2 q = I q) → Zp G 4 61 [some (.ref 54), some (.ref 2), some (.int (nI (fct (sn S)))), some (.int (nI i))] [] I2 L Q := by
        intro I2 g1 g2
        refine Zp.iinc (nI (_ + 1)) [some (.ref _), some (.ref _), some (.int _), some (.int _)] k_4_61 rfl (nI_1 _) (Nat.lt_of_lt_of_eq (zlt rfl : 3 < 4) vl_4.symm) rfl ?_
        refine Zp.goto k_4_64 ?_
        exact ih (i + 1) I2 (by omega) g1 g2
      have no : ∀ I2 : zI, puS (rch (sn S) i) (sn S) = none → (∀ q, q ≠ 56 → q ≠ 57 → I2 q = I1 q) → Zp G 4 53 [some (.ref 54), some (.ref 2), some (.int (nI (fct (sn S)))), some (.int (nI i))] [.int (nI 0)] I2 L Q := by
        intro I2 hpu f2
        have hn : mtC (sn S) i = none := by unfold mtC; rw [hpu]; rfl
        have g1 : MB I2 (sn S) (bst S ((List.range (i + 1)).filterMap (mtC (sn S)))) := by
          rw [bst_no hn]
          unfold MB at hb ⊢
          rw [f2 54 (by decide) (by decide), f2 55 (by decide) (by decide)]
          exact hb
        refine Zp.if_eqN k_4_53 (by omega) (fun _ => ?_) (fun c => absurd c (by decide))
        exact nx I2 g1 (fun q h => (f2 q (by omega) (by omega)).trans (fr q h))
      have yes : ∀ (f : Nat → Nat) (I2 : zI), puS (rch (sn S) i) (sn S) = some f → (∀ j, f j ≤ sn S) → (∀ j, j < sn S → I2 56 j = vM (f j)) → (∀ q, q ≠ 56 → q ≠ 57 → I2 q = I1 q) → Zp G 4 53 [some (.ref 54), some (.ref 2), some (.int (nI (fct (sn S)))), some (.int (nI i))] [.int (nI 1)] I2 L Q := by
        intro f I2 hpu hf h56 f2
        have hn : mtC (sn S) i = some ((List.range (sn S)).map f) := by unfold mtC; rw [hpu]; rfl
        have hsm : sm (ctr S fun a => ((List.range (sn S)).map f).getD a 0) (sn S) = sm (ctr S f) (sn S) := sm_cong _ fun j hj => by
          show (if j + 1 < ((List.range (sn S)).map f).getD j 0 then tn S j (((List.range (sn S)).map f).getD j 0 - 1) else 0) = _
          rw [mapr_at hj]
          rfl
        have hp2 : Sp I2 2 S := hp1.fr (f2 2 (by decide) (by decide)) (f2 3 (by decide) (by decide)) (f2 4 (by decide) (by decide))
        have hb2 : I2 54 0 = bsV (bst S ((List.range i).filterMap (mtC (sn S)))) := by rw [f2 54 (by decide) (by decide)]; exact hb.1
        refine Zp.if_eqN k_4_53 (by omega) (fun c => absurd c (by decide)) (fun _ => ?_)
        refine Zp.aload_n k_4_56 rfl ?_
        refine Zp.aload_n k_4_57 rfl ?_
        refine Zp.callv1V v_7 k_4_58 m_54 (Nat.le_of_ble_eq_true rfl) (Nat.le_of_ble_eq_true rfl) (c_takeIfMore hp2 ho hb2 h56 hf (fun hless => ⟨rfl, nx I2 (by
  rw [bst_yes hn, bsp_less (by rw [hsm]; exact hless) blt]
  unfold MB at hb ⊢
  rw [f2 54 (by decide) (by decide), f2 55 (by decide) (by decide)]
  exact hb) (fun q h => (f2 q (by omega) (by omega)).trans (fr q h))⟩) (fun hmore I3 t0 t55 f3 => ⟨rfl, nx I3 (by
  rw [bst_yes hn, bsp_more (by rw [hsm]; exact hmore) blt, hsm]
  refine ⟨t0, fun x s hx j hj => ?_⟩
  have e : (List.range (sn S)).map f = x := congrArg Prod.fst (Option.some.inj hx)
  rw [← e, mapr_at hj]
  exact t55 j hj) (fun q h => (f3 q (by omega) (by omega)).trans ((f2 q (by omega) (by omega)).trans (fr q h)))⟩))
        
      refine Zp.iload_n k_4_31 rfl ?_
      refine Zp.iload_n k_4_32 rfl ?_
      refine Zp.icmp_geN k_4_33 (by omega) (by omega) (fun c_33 => absurd c_33 (by omega)) (fun c_33 => ?_)
      refine Zp.aload_n k_4_36 rfl ?_
      refine Zp.iload_n k_4_37 rfl ?_
      refine Zp.aload_n k_4_38 rfl ?_
      refine Zp.getV k_4_39 rfl (zlt rfl) m_2 hp1.1 ?_
      refine Zp.callv2V v_5 k_4_42 m_54 (Nat.le_of_ble_eq_true rfl) (Nat.le_of_ble_eq_true rfl) (c_tellReaches (by omega) (by omega) (fun I2 h57 f2 => ⟨rfl, ?_⟩))
      refine Zp.aload_n k_4_45 rfl ?_
      refine Zp.aload_n k_4_46 rfl ?_
      refine Zp.getV k_4_47 rfl (zlt rfl) m_2 ((congrFun (f2 2 (by decide)) _).trans hp1.1) ?_
      refine Zp.callv1I v_6 k_4_50 m_54 (Nat.le_of_ble_eq_true rfl) (Nat.le_of_ble_eq_true rfl) (c_pairsUp (by omega) h57 (fun a ha => rch_lt ha) (fun hpu I3 f3 => ⟨_, rfl, no I3 hpu (fun q h h2 => (f3 q h).trans (f2 q h2))⟩) (fun f I3 hpu hf h56 f3 => ⟨_, rfl, yes f I3 hpu hf h56 (fun q h h2 => (f3 q h).trans (f2 q h2))⟩))
      
  have first1 : ∀ k a, a + k = sn S → Zp G 4 4 [some (.ref 54), some (.ref 2), some (.int (nI (fct a))), some (.int (nI a))] [] I L Q := by
    intro k
    induction k with
    | zero =>
      intro a ha
      have e : a = sn S := by omega
      subst e
      refine Zp.iload_n k_4_4 rfl ?_
      refine Zp.aload_n k_4_5 rfl ?_
      refine Zp.getV k_4_6 rfl (zlt rfl) m_2 hp.1 ?_
      refine Zp.icmp_geN k_4_9 (by omega) (by omega) (fun c_9 => ?_) (fun c_9 => absurd c_9 (by omega))
      refine Zp.aload_n k_4_24 rfl ?_
      refine Zp.iconst (-1) k_4_25 (by decide) ?_
      refine Zp.putI k_4_26 rfl (zlt rfl) m_54 ?_
      refine Zp.iconst (nI 0) k_4_29 (by decide) ?_
      refine Zp.istore_n [some (.ref _), some (.ref _), some (.int _), some (.int _)] k_4_30 (Nat.lt_of_lt_of_eq (zlt rfl : 3 < 4) vl_4.symm) rfl ?_
      exact loop (fct (sn S)) 0 _ (by omega) ⟨zpu_s _ _ _ _, fun x s hx => absurd hx (by simp [bst])⟩ (fun q h => zpu_q _ _ _ (by omega))
    | succ k ih =>
      intro a ha
      refine Zp.iload_n k_4_4 rfl ?_
      refine Zp.aload_n k_4_5 rfl ?_
      refine Zp.getV k_4_6 rfl (zlt rfl) m_2 hp.1 ?_
      refine Zp.icmp_geN k_4_9 (by omega) (by omega) (fun c_9 => absurd c_9 (by omega)) (fun c_9 => ?_)
      refine Zp.iload_n k_4_12 rfl ?_
      refine Zp.iload_n k_4_13 rfl ?_
      refine Zp.iconst (nI 1) k_4_14 (by decide) ?_
      refine Zp.iaddN k_4_15 ?_
      refine Zp.imulN k_4_16 ?_
      refine Zp.istore_n [some (.ref _), some (.ref _), some (.int _), some (.int _)] k_4_17 (Nat.lt_of_lt_of_eq (zlt rfl : 2 < 4) vl_4.symm) rfl ?_
      refine Zp.iinc (nI (_ + 1)) [some (.ref _), some (.ref _), some (.int _), some (.int _)] k_4_18 rfl (nI_1 _) (Nat.lt_of_lt_of_eq (zlt rfl : 3 < 4) vl_4.symm) rfl ?_
      refine Zp.goto k_4_21 ?_
      exact ih (a + 1) (by omega)
  refine Zm.go [some (.ref _), some (.ref _), none, none] vl_4 rfl ?_
  refine Zp.iconst (nI 1) k_4_0 (by decide) ?_
  refine Zp.istore_n [some (.ref _), some (.ref _), some (.int _), none] k_4_1 (Nat.lt_of_lt_of_eq (zlt rfl : 2 < 4) vl_4.symm) rfl ?_
  refine Zp.iconst (nI 0) k_4_2 (by decide) ?_
  refine Zp.istore_n [some (.ref _), some (.ref _), some (.int _), some (.int _)] k_4_3 (Nat.lt_of_lt_of_eq (zlt rfl : 3 < 4) vl_4.symm) rfl ?_
  exact first1 (sn S) 0 (by omega)
/-! the reference -/
theorem c_codesM (h3 : I 93 3 = nI m) (hm : m ≤ 5) (hq : Q (some (.int (nI (6 ^ m)))) I L) : Zm G 204 [.ref 93] I L Q := by
  have loop : ∀ k i, i + k = m → Zp G 204 4 [some (.ref 93), some (.int (nI (6 ^ i))), some (.int (nI i))] [] I L Q := by
    intro k
    induction k with
    | zero =>
      intro i hi
      have e : i = m := by omega
      subst e
      refine Zp.iload_n k_204_4 rfl ?_
      refine Zp.aload_n k_204_5 rfl ?_
      refine Zp.getV k_204_6 rfl (zlt rfl) m_93 h3 ?_
      refine Zp.icmp_geN k_204_9 (by omega) (by omega) (fun c_9 => ?_) (fun c_9 => absurd c_9 (by omega))
      refine Zp.iload_n k_204_23 rfl ?_
      refine Zp.iret _ k_204_24 vr_204 rfl ?_
      exact hq
    | succ k ih =>
      intro i hi
      refine Zp.iload_n k_204_4 rfl ?_
      refine Zp.aload_n k_204_5 rfl ?_
      refine Zp.getV k_204_6 rfl (zlt rfl) m_93 h3 ?_
      refine Zp.icmp_geN k_204_9 (by omega) (by omega) (fun c_9 => absurd c_9 (by omega)) (fun c_9 => ?_)
      refine Zp.iload_n k_204_12 rfl ?_
      refine Zp.bipush (nI 6) k_204_13 (by decide) ?_
      refine Zp.imulN k_204_15 ?_
      refine Zp.istore_n [some (.ref _), some (.int _), some (.int _)] k_204_16 (Nat.lt_of_lt_of_eq (zlt rfl : 1 < 3) vl_204.symm) rfl ?_
      refine Zp.iinc (nI (_ + 1)) [some (.ref _), some (.int _), some (.int _)] k_204_17 rfl (nI_1 _) (Nat.lt_of_lt_of_eq (zlt rfl : 2 < 3) vl_204.symm) rfl ?_
      refine Zp.goto k_204_20 ?_
      exact ih (i + 1) (by omega)
  refine Zm.go [some (.ref _), none, none] vl_204 rfl ?_
  refine Zp.iconst (nI 1) k_204_0 (by decide) ?_
  refine Zp.istore_n [some (.ref _), some (.int _), none] k_204_1 (Nat.lt_of_lt_of_eq (zlt rfl : 1 < 3) vl_204.symm) rfl ?_
  refine Zp.iconst (nI 0) k_204_2 (by decide) ?_
  refine Zp.istore_n [some (.ref _), some (.int _), some (.int _)] k_204_3 (Nat.lt_of_lt_of_eq (zlt rfl : 2 < 3) vl_204.symm) rfl ?_
  exact loop m 0 (by omega)
/-- a mate as the reference writes it -/
def wM (v : Nat) : Int32 := nI v - nI 1
theorem wM_t {v : Nat} (h : v < 100) : (wM v).toInt = (v : Int) - 1 := by
  have := zsubt (h := v) (l := 1) (by omega) (by omega)
  unfold wM
  omega
theorem wM_n {v : Nat} (h : v < 100) (h0 : v ≠ 0) : wM v = nI (v - 1) := by
  rw [z_nI (x := wM v) (by rw [wM_t h]; omega), wM_t h]
  congr 1
  omega
theorem dgt_lt (m code a : Nat) : dgt m code a < 6 := Nat.mod_lt _ (by decide)
theorem okR_iff {a : Nat} : okR m code a = true ↔ dgt m code a = 0 ∨ (dgt m code a - 1 < m ∧ ¬ dgt m code a - 1 = a ∧ dgt m code (dgt m code a - 1) = a + 1) := by
  unfold okR
  simp [and_assoc]
theorem c_isMatchM (h3 : I 93 3 = nI m) (hm : m ≤ 5) (hc : code < 2 ^ 20)
    (hno : mtR m code = none → ∀ I', (∀ a, a < m → I' 106 a = wM (dgt m code a)) → (∀ q, q ≠ 106 → I' q = I q) → Q (some (.int (nI 0))) I' L)
    (hyes : mtR m code = some ((List.range m).map (dgt m code)) → (∀ a, a < m → dgt m code a ≤ m) → ∀ I', (∀ a, a < m → I' 106 a = wM (dgt m code a)) → (∀ q, q ≠ 106 → I' q = I q) → Q (some (.int (nI 1))) I' L) : Zm G 205 [.ref 93, .int (nI code)] I L Q := by
  have second : ∀ k a w (I1 : zI), a + k = m → w ≤ 1 → (w = 1 ↔ ∀ j, j < a → okR m code j = true) → (∀ a, a < m → I1 106 a = wM (dgt m code a)) → (∀ q, q ≠ 106 → I1 q = I q) → Zp G 205 44 [some (.ref 93), some (.int (nI code)), none, some (.int (nI w)), some (.int (nI a))] [] I1 L Q := by
    intro k
    induction k with
    | zero =>
      intro a w I1 ha hw hs h1 h2
      have e : a = m := by omega
      subst e
      have g3 : I1 93 3 = nI a := by rw [h2 93 (by decide)]; exact h3
      refine Zp.iload k_205_44 rfl ?_
      refine Zp.aload_n k_205_46 rfl ?_
      refine Zp.getV k_205_47 rfl (zlt rfl) m_93 g3 ?_
      refine Zp.icmp_geN k_205_50 (by omega) (by omega) (fun c_50 => ?_) (fun c_50 => absurd c_50 (by omega))
      rcases (by omega : w = 0 ∨ w = 1) with rfl | rfl
      · have hn : mtR a code = none := if_neg (fun z => absurd (hs.mpr (fun j hj => List.all_eq_true.mp z j (List.mem_range.mpr hj))) (by decide))
        refine Zp.iload_n k_205_122 rfl ?_
        refine Zp.iret _ k_205_123 vr_205 rfl ?_
        exact hno hn I1 h1 h2
      · have ha1 := hs.mp rfl
        have hn : mtR a code = some ((List.range a).map (dgt a code)) := if_pos (List.all_eq_true.mpr (fun j hj => ha1 j (List.mem_range.mp hj)))
        refine Zp.iload_n k_205_122 rfl ?_
        refine Zp.iret _ k_205_123 vr_205 rfl ?_
        exact hyes hn (fun j hj => by have := okR_iff.mp (ha1 j hj); omega) I1 h1 h2
    | succ k ih =>
      intro a w I1 ha hw hs h1 h2
      have g3 : I1 93 3 = nI m := by rw [h2 93 (by decide)]; exact h3
      have ga := h1 a (by omega)
      have da := dgt_lt m code a
      have ta := wM_t (v := dgt m code a) (by omega)
      have oa := okR_iff (m := m) (code := code) (a := a)
      have ok1 : ∀ w', w' ≤ 1 → (w' = 1 ↔ w = 1 ∧ okR m code a = true) → Zp G 205 115 [some (.ref 93), some (.int (nI code)), none, some (.int (nI w)), some (.int (nI a))] [.int (nI w')] I1 L Q := by
        intro w' hw' hs'
        have hs2 : w' = 1 ↔ ∀ j, j < a + 1 → okR m code j = true := hs'.trans ⟨fun z j hj => by
            rcases (by omega : j < a ∨ j = a) with e | e
            · exact hs.mp z.1 j e
            · subst e; exact z.2, fun z => ⟨hs.mpr fun j hj => z j (by omega), z a (by omega)⟩⟩
        refine Zp.istore_n [some (.ref _), some (.int _), none, some (.int _), some (.int _)] k_205_115 (Nat.lt_of_lt_of_eq (zlt rfl : 3 < 5) vl_205.symm) rfl ?_
        refine Zp.iinc (nI (_ + 1)) [some (.ref _), some (.int _), none, some (.int _), some (.int _)] k_205_116 rfl (nI_1 _) (Nat.lt_of_lt_of_eq (zlt rfl : 4 < 5) vl_205.symm) rfl ?_
        refine Zp.goto k_205_119 ?_
        exact ih (a + 1) w' I1 (by omega) hw' hs2 h1 h2
      have no1 : ¬ (w = 1 ∧ okR m code a = true) → Zp G 205 115 [some (.ref 93), some (.int (nI code)), none, some (.int (nI w)), some (.int (nI a))] [.int (nI 0)] I1 L Q := fun z => ok1 0 (by decide) ⟨fun h => absurd h (by decide), fun h => absurd h z⟩
      by_cases d0 : dgt m code a = 0
      · refine Zp.iload k_205_44 rfl ?_
        refine Zp.aload_n k_205_46 rfl ?_
        refine Zp.getV k_205_47 rfl (zlt rfl) m_93 g3 ?_
        refine Zp.icmp_geN k_205_50 (by omega) (by omega) (fun c_50 => absurd c_50 (by omega)) (fun c_50 => ?_)
        refine Zp.iload_n k_205_53 rfl ?_
        refine Zp.if_eqN k_205_54 (by omega) (fun c_54 => ?_) (fun c_54 => ?_)
        · refine Zp.iconst (nI 0) k_205_114 (by decide) ?_
          first | exact no1 (fun z => absurd z.1 (by omega)) | exact ok1 1 (by decide) ⟨fun _ => ⟨by omega, oa.mpr (Or.inl d0)⟩, fun _ => rfl⟩
        · refine Zp.aload_n k_205_57 rfl ?_
          refine Zp.getR k_205_58 rfl (zlt rfl) m_93 r_93_27 ?_
          refine Zp.iload k_205_61 rfl ?_
          refine Zp.iald _ k_205_63 m_106 rfl (by omega) (zlt rfl) ga ?_
          refine Zp.if_ltZ _ k_205_64 rfl (fun c_64 => ?_) (fun c_64 => absurd c_64 (by omega))
          refine Zp.iconst (nI 1) k_205_110 (by decide) ?_
          refine Zp.goto k_205_111 ?_
          first | exact no1 (fun z => absurd z.1 (by omega)) | exact ok1 1 (by decide) ⟨fun _ => ⟨by omega, oa.mpr (Or.inl d0)⟩, fun _ => rfl⟩
      · have e1 := wM_n (v := dgt m code a) (by omega) d0
        by_cases d1 : dgt m code a - 1 < m
        · have gb := h1 (dgt m code a - 1) d1
          have db := dgt_lt m code (dgt m code a - 1)
          have tb := wM_t (v := dgt m code (dgt m code a - 1)) (by omega)
          have ga2 := ga
          rw [e1] at ga2
          refine Zp.iload k_205_44 rfl ?_
          refine Zp.aload_n k_205_46 rfl ?_
          refine Zp.getV k_205_47 rfl (zlt rfl) m_93 g3 ?_
          refine Zp.icmp_geN k_205_50 (by omega) (by omega) (fun c_50 => absurd c_50 (by omega)) (fun c_50 => ?_)
          refine Zp.iload_n k_205_53 rfl ?_
          refine Zp.if_eqN k_205_54 (by omega) (fun c_54 => ?_) (fun c_54 => ?_)
          · refine Zp.iconst (nI 0) k_205_114 (by decide) ?_
            first
              | exact no1 (fun z => absurd z.1 (by omega))
              | exact no1 (fun z => absurd (oa.mp z.2) (by omega))
              | exact ok1 1 (by decide) ⟨fun _ => ⟨by omega, oa.mpr (Or.inr ⟨by omega, by omega, by omega⟩)⟩, fun _ => rfl⟩
          · refine Zp.aload_n k_205_57 rfl ?_
            refine Zp.getR k_205_58 rfl (zlt rfl) m_93 r_93_27 ?_
            refine Zp.iload k_205_61 rfl ?_
            refine Zp.iald _ k_205_63 m_106 rfl (by omega) (zlt rfl) ga ?_
            refine Zp.if_ltZ _ k_205_64 rfl (fun c_64 => absurd c_64 (by omega)) (fun c_64 => ?_)
            refine Zp.aload_n k_205_67 rfl ?_
            refine Zp.getR k_205_68 rfl (zlt rfl) m_93 r_93_27 ?_
            refine Zp.iload k_205_71 rfl ?_
            refine Zp.iald _ k_205_73 m_106 rfl (by omega) (zlt rfl) ga2 ?_
            refine Zp.aload_n k_205_74 rfl ?_
            refine Zp.getV k_205_75 rfl (zlt rfl) m_93 g3 ?_
            refine Zp.icmp_geN k_205_78 (by omega) (by omega) (fun c_78 => ?_) (fun c_78 => ?_)
            · refine Zp.iconst (nI 0) k_205_114 (by decide) ?_
              first
                | exact no1 (fun z => absurd z.1 (by omega))
                | exact no1 (fun z => absurd (oa.mp z.2) (by omega))
                | exact ok1 1 (by decide) ⟨fun _ => ⟨by omega, oa.mpr (Or.inr ⟨by omega, by omega, by omega⟩)⟩, fun _ => rfl⟩
            · refine Zp.aload_n k_205_81 rfl ?_
              refine Zp.getR k_205_82 rfl (zlt rfl) m_93 r_93_27 ?_
              refine Zp.iload k_205_85 rfl ?_
              refine Zp.iald _ k_205_87 m_106 rfl (by omega) (zlt rfl) ga2 ?_
              refine Zp.iload k_205_88 rfl ?_
              refine Zp.icmp_eqN k_205_90 (by omega) (by omega) (fun c_90 => ?_) (fun c_90 => ?_)
              · refine Zp.iconst (nI 0) k_205_114 (by decide) ?_
                first
                  | exact no1 (fun z => absurd z.1 (by omega))
                  | exact no1 (fun z => absurd (oa.mp z.2) (by omega))
                  | exact ok1 1 (by decide) ⟨fun _ => ⟨by omega, oa.mpr (Or.inr ⟨by omega, by omega, by omega⟩)⟩, fun _ => rfl⟩
              · refine Zp.aload_n k_205_93 rfl ?_
                refine Zp.getR k_205_94 rfl (zlt rfl) m_93 r_93_27 ?_
                refine Zp.aload_n k_205_97 rfl ?_
                refine Zp.getR k_205_98 rfl (zlt rfl) m_93 r_93_27 ?_
                refine Zp.iload k_205_101 rfl ?_
                refine Zp.iald _ k_205_103 m_106 rfl (by omega) (zlt rfl) ga2 ?_
                refine Zp.iald _ k_205_104 m_106 rfl (by omega) (zlt rfl) gb ?_
                refine Zp.iload k_205_105 rfl ?_
                refine Zp.icmp_neZ _ _ k_205_107 rfl (nI_toInt (by omega)) (fun c_107 => ?_) (fun c_107 => ?_)
                · refine Zp.iconst (nI 0) k_205_114 (by decide) ?_
                  first
                    | exact no1 (fun z => absurd z.1 (by omega))
                    | exact no1 (fun z => absurd (oa.mp z.2) (by omega))
                    | exact ok1 1 (by decide) ⟨fun _ => ⟨by omega, oa.mpr (Or.inr ⟨by omega, by omega, by omega⟩)⟩, fun _ => rfl⟩
                · refine Zp.iconst (nI 1) k_205_110 (by decide) ?_
                  refine Zp.goto k_205_111 ?_
                  first
                    | exact no1 (fun z => absurd z.1 (by omega))
                    | exact no1 (fun z => absurd (oa.mp z.2) (by omega))
                    | exact ok1 1 (by decide) ⟨fun _ => ⟨by omega, oa.mpr (Or.inr ⟨by omega, by omega, by omega⟩)⟩, fun _ => rfl⟩
        · have ga2 := ga
          rw [e1] at ga2
          refine Zp.iload k_205_44 rfl ?_
          refine Zp.aload_n k_205_46 rfl ?_
          refine Zp.getV k_205_47 rfl (zlt rfl) m_93 g3 ?_
          refine Zp.icmp_geN k_205_50 (by omega) (by omega) (fun c_50 => absurd c_50 (by omega)) (fun c_50 => ?_)
          refine Zp.iload_n k_205_53 rfl ?_
          refine Zp.if_eqN k_205_54 (by omega) (fun c_54 => ?_) (fun c_54 => ?_)
          · refine Zp.iconst (nI 0) k_205_114 (by decide) ?_
            first
              | exact no1 (fun z => absurd z.1 (by omega))
              | exact no1 (fun z => absurd (oa.mp z.2) (by omega))
          · refine Zp.aload_n k_205_57 rfl ?_
            refine Zp.getR k_205_58 rfl (zlt rfl) m_93 r_93_27 ?_
            refine Zp.iload k_205_61 rfl ?_
            refine Zp.iald _ k_205_63 m_106 rfl (by omega) (zlt rfl) ga ?_
            refine Zp.if_ltZ _ k_205_64 rfl (fun c_64 => absurd c_64 (by omega)) (fun c_64 => ?_)
            refine Zp.aload_n k_205_67 rfl ?_
            refine Zp.getR k_205_68 rfl (zlt rfl) m_93 r_93_27 ?_
            refine Zp.iload k_205_71 rfl ?_
            refine Zp.iald _ k_205_73 m_106 rfl (by omega) (zlt rfl) ga2 ?_
            refine Zp.aload_n k_205_74 rfl ?_
            refine Zp.getV k_205_75 rfl (zlt rfl) m_93 g3 ?_
            refine Zp.icmp_geN k_205_78 (by omega) (by omega) (fun c_78 => ?_) (fun c_78 => absurd c_78 (by omega))
            refine Zp.iconst (nI 0) k_205_114 (by decide) ?_
            first
              | exact no1 (fun z => absurd z.1 (by omega))
              | exact no1 (fun z => absurd (oa.mp z.2) (by omega))
  have first1 : ∀ (k : Nat) (u : Int32) (I1 : zI), u.toInt = (k : Int) - 1 → k ≤ m → (∀ a, k ≤ a → a < m → I1 106 a = wM (dgt m code a)) → (∀ q, q ≠ 106 → I1 q = I q) → Zp G 205 12 [some (.ref 93), some (.int (nI code)), some (.int (nI (code / 6 ^ (m - k)))), some (.int (nI 1)), some (.int u)] [] I1 L Q := by
    intro k
    induction k with
    | zero =>
      intro u I1 hu hk h1 h2
      refine Zp.iload k_205_12 rfl ?_
      refine Zp.if_ltZ _ k_205_14 rfl (fun c_14 => ?_) (fun c_14 => absurd c_14 (by omega))
      refine Zp.iconst (nI 0) k_205_41 (by decide) ?_
      refine Zp.istore [some (.ref _), some (.int _), some (.int _), some (.int _), some (.int _)] k_205_42 (Nat.lt_of_lt_of_eq (zlt rfl : 4 < 5) vl_205.symm) rfl ?_
      exact Zp.locs _ (zle_sub (by simp [zle])) (second m 0 1 I1 (by omega) (by decide) ⟨fun _ j hj => absurd hj (Nat.not_lt_zero j), fun _ => rfl⟩ (fun a ha => h1 a (Nat.zero_le a) ha) h2)
    | succ k ih =>
      intro u I1 hu hk h1 h2
      have eu : u = nI k := by rw [z_nI (x := u) (by omega), hu]; congr 1; omega
      subst eu
      have hd : code / 6 ^ (m - (k + 1)) ≤ code := Nat.div_le_self _ _
      have e1 : code / 6 ^ (m - (k + 1)) / 6 = code / 6 ^ (m - k) := by
        rw [Nat.div_div_eq_div_mul, show m - k = m - (k + 1) + 1 by omega, Nat.pow_succ]
      refine Zp.iload k_205_12 rfl ?_
      refine Zp.if_ltN k_205_14 (by omega) ?_
      refine Zp.aload_n k_205_17 rfl ?_
      refine Zp.getR k_205_18 rfl (zlt rfl) m_93 r_93_27 ?_
      refine Zp.iload k_205_21 rfl ?_
      refine Zp.iload_n k_205_23 rfl ?_
      refine Zp.bipush (nI 6) k_205_24 (by decide) ?_
      refine Zp.iremN k_205_26 (by omega) (by omega) (by omega) ?_
      refine Zp.iconst (nI 1) k_205_27 (by decide) ?_
      refine Zp.isub k_205_28 ?_
      refine Zp.iast _ k_205_29 m_106 rfl (by omega) (zlt rfl) ?_
      refine Zp.iload_n k_205_30 rfl ?_
      refine Zp.bipush (nI 6) k_205_31 (by decide) ?_
      refine Zp.idivN k_205_33 (by omega) (by omega) (by omega) ?_
      rw [e1]
      refine Zp.istore_n [some (.ref _), some (.int _), some (.int _), some (.int _), some (.int _)] k_205_34 (Nat.lt_of_lt_of_eq (zlt rfl : 2 < 5) vl_205.symm) rfl ?_
      refine Zp.iinc _ [some (.ref _), some (.int _), some (.int _), some (.int _), some (.int _)] k_205_35 rfl rfl (Nat.lt_of_lt_of_eq (zlt rfl : 4 < 5) vl_205.symm) rfl ?_
      refine Zp.goto k_205_38 ?_
      refine ih _ _ (idec (by omega)) (by omega) (fun a ha ha2 => ?_) (fun q h => by rw [zpu_q _ _ _ h]; exact h2 q h)
      by_cases e : a = k
      · subst e; rw [zpu_s]; rfl
      · rw [zpu_k _ _ _ e]; exact h1 a (by omega) ha2
  refine Zm.go [some (.ref _), some (.int _), none, none, none] vl_205 rfl ?_
  refine Zp.iload_n k_205_0 rfl ?_
  refine Zp.istore_n [some (.ref _), some (.int _), some (.int _), none, none] k_205_1 (Nat.lt_of_lt_of_eq (zlt rfl : 2 < 5) vl_205.symm) rfl ?_
  refine Zp.iconst (nI 1) k_205_2 (by decide) ?_
  refine Zp.istore_n [some (.ref _), some (.int _), some (.int _), some (.int _), none] k_205_3 (Nat.lt_of_lt_of_eq (zlt rfl : 3 < 5) vl_205.symm) rfl ?_
  refine Zp.aload_n k_205_4 rfl ?_
  refine Zp.getV k_205_5 rfl (zlt rfl) m_93 h3 ?_
  refine Zp.iconst (nI 1) k_205_8 (by decide) ?_
  refine Zp.isub k_205_9 ?_
  refine Zp.istore [some (.ref _), some (.int _), some (.int _), some (.int _), some (.int _)] k_205_10 (Nat.lt_of_lt_of_eq (zlt rfl : 4 < 5) vl_205.symm) rfl ?_
  refine Zp.locs _ (zle_sub ?_) (first1 m _ I (by have := zsubt (h := m) (l := 1) (by omega) (by omega); omega) (Nat.le_refl m) (fun a ha ha2 => absurd ha2 (by omega)) (fun _ _ => rfl))
  simp [zle]
theorem c_turnsNowM {f : Nat → Nat} (mp : Mp (I 95) S) (ho : So S) (h3 : I 93 3 = nI (sn S)) (h106 : ∀ a, a < sn S → I 106 a = wM (f a)) (hf : ∀ a, a < sn S → f a ≤ sn S) (hq : Q (some (.int (nI (sm (ctr S f) (sn S))))) I L) : Zm G 206 [.ref 93] I L Q := by
  have o1 := ho.1
  have hsl := fun n => sm_le (f := ctr S f) (m := 18) (ctr_le ho f) n
  have loop : ∀ k a, a + k = sn S → Zp G 206 4 [some (.ref 93), some (.int (nI (sm (ctr S f) a))), some (.int (nI a))] [] I L Q := by
    intro k
    induction k with
    | zero =>
      intro a ha
      have e : a = sn S := by omega
      subst e
      refine Zp.iload_n k_206_4 rfl ?_
      refine Zp.aload_n k_206_5 rfl ?_
      refine Zp.getV k_206_6 rfl (zlt rfl) m_93 h3 ?_
      refine Zp.icmp_geN k_206_9 (by omega) (by omega) (fun c_9 => ?_) (fun c_9 => absurd c_9 (by omega))
      refine Zp.iload_n k_206_46 rfl ?_
      refine Zp.iret _ k_206_47 vr_206 rfl ?_
      exact hq
    | succ k ih =>
      intro a ha
      have hb := hsl a
      have hfa := hf a (by omega)
      have ga := h106 a (by omega)
      have ta := wM_t (v := f a) (by omega)
      have ht := tn_le ho a (f a - 1)
      have ih1 := ih (a + 1) (by omega)
      have hs : sm (ctr S f) (a + 1) = sm (ctr S f) a + ctr S f a := rfl
      have hc2 : ctr S f a = if a + 1 < f a then tn S a (f a - 1) else 0 := rfl
      refine Zp.iload_n k_206_4 rfl ?_
      refine Zp.aload_n k_206_5 rfl ?_
      refine Zp.getV k_206_6 rfl (zlt rfl) m_93 h3 ?_
      refine Zp.icmp_geN k_206_9 (by omega) (by omega) (fun c_9 => absurd c_9 (by omega)) (fun c_9 => ?_)
      refine Zp.iload_n k_206_12 rfl ?_
      refine Zp.aload_n k_206_13 rfl ?_
      refine Zp.getR k_206_14 rfl (zlt rfl) m_93 r_93_27 ?_
      refine Zp.iload_n k_206_17 rfl ?_
      refine Zp.iald _ k_206_18 m_106 rfl (by omega) (zlt rfl) ga ?_
      refine Zp.iload_n k_206_19 rfl ?_
      refine Zp.icmp_leZ _ _ k_206_20 rfl (nI_toInt (by omega)) (fun c_20 => ?_) (fun c_20 => ?_)
      · refine Zp.iconst (nI 0) k_206_37 (by decide) ?_
        refine Zp.iaddN k_206_38 ?_
        refine Zp.istore_n [some (.ref _), some (.int _), some (.int _)] k_206_39 (Nat.lt_of_lt_of_eq (zlt rfl : 1 < 3) vl_206.symm) rfl ?_
        refine Zp.iinc (nI (_ + 1)) [some (.ref _), some (.int _), some (.int _)] k_206_40 rfl (nI_1 _) (Nat.lt_of_lt_of_eq (zlt rfl : 2 < 3) vl_206.symm) rfl ?_
        refine Zp.goto k_206_43 ?_
        first
          | (rw [if_pos (by omega)] at hc2; rw [hs, hc2] at ih1; exact ih1)
          | (rw [if_neg (by omega)] at hc2; rw [hs, hc2] at ih1; exact ih1)
      · refine Zp.aload_n k_206_23 rfl ?_
        refine Zp.iload_n k_206_24 rfl ?_
        refine Zp.aload_n k_206_25 rfl ?_
        refine Zp.getR k_206_26 rfl (zlt rfl) m_93 r_93_27 ?_
        refine Zp.iload_n k_206_29 rfl ?_
        refine Zp.iald _ k_206_30 m_106 rfl (by omega) (zlt rfl) ga ?_
        have e3 : wM (f a) = nI (f a - 1) := wM_n (by omega) (by omega)
        rw [e3]
        refine Zp.callv2I v_165 k_206_31 m_93 (Nat.le_of_ble_eq_true rfl) (Nat.le_of_ble_eq_true rfl) (c_turnOfM mp ho (by omega) (by omega) ⟨_, rfl, ?_⟩)
        refine Zp.goto k_206_34 ?_
        refine Zp.iaddN k_206_38 ?_
        refine Zp.istore_n [some (.ref _), some (.int _), some (.int _)] k_206_39 (Nat.lt_of_lt_of_eq (zlt rfl : 1 < 3) vl_206.symm) rfl ?_
        refine Zp.iinc (nI (_ + 1)) [some (.ref _), some (.int _), some (.int _)] k_206_40 rfl (nI_1 _) (Nat.lt_of_lt_of_eq (zlt rfl : 2 < 3) vl_206.symm) rfl ?_
        refine Zp.goto k_206_43 ?_
        first
          | (rw [if_pos (by omega)] at hc2; rw [hs, hc2] at ih1; exact ih1)
          | (rw [if_neg (by omega)] at hc2; rw [hs, hc2] at ih1; exact ih1)
  refine Zm.go [some (.ref _), none, none] vl_206 rfl ?_
  refine Zp.iconst (nI 0) k_206_0 (by decide) ?_
  refine Zp.istore_n [some (.ref _), some (.int _), none] k_206_1 (Nat.lt_of_lt_of_eq (zlt rfl : 1 < 3) vl_206.symm) rfl ?_
  refine Zp.iconst (nI 0) k_206_2 (by decide) ?_
  refine Zp.istore_n [some (.ref _), some (.int _), some (.int _)] k_206_3 (Nat.lt_of_lt_of_eq (zlt rfl : 2 < 3) vl_206.symm) rfl ?_
  exact loop (sn S) 0 (by omega)
end MATCH1
