/-! PAIRS FOR SPOONS: numbers; the class -/
def fct : Nat → Nat
  | 0 => 1
  | n + 1 => fct n * (n + 1)
theorem fct_le : ∀ m, m < 6 → fct m ≤ 120 ∧ 0 < fct m := by decide +kernel
/-- how far behind a helper its mate stands by a code -/
def rch (m code a : Nat) : Nat := code / fct (m - (a + 1)) % (m - a)
/-- the mates by reaches, of the first a: 0 nobody, else the mate and 1; none if one is at two spoons -/
def puS (r : Nat → Nat) : Nat → Option (Nat → Nat)
  | 0 => some fun _ => 0
  | a + 1 => match puS r a with
    | none => none
    | some f => if r a = 0 then some f else if f a = 0 ∧ f (a + r a) = 0 then some (va_up (va_up f a (a + r a + 1)) (a + r a) (a + 1)) else none
theorem puS_none {r : Nat → Nat} {a : Nat} (h : puS r a = none) : ∀ k, puS r (a + k) = none
  | 0 => h
  | k + 1 => by
    have ih := puS_none h k
    show (match puS r (a + k) with
    | none => none
    | some f => if r (a + k) = 0 then some f else if f (a + k) = 0 ∧ f (a + k + r (a + k)) = 0 then some (va_up (va_up f (a + k) (a + k + r (a + k) + 1)) (a + k + r (a + k)) (a + k + 1)) else none) = none
    rw [ih]
theorem puS_s {r : Nat → Nat} {a : Nat} {f : Nat → Nat} (h : puS r a = some f) : puS r (a + 1) = if r a = 0 then some f else if f a = 0 ∧ f (a + r a) = 0 then some (va_up (va_up f a (a + r a + 1)) (a + r a) (a + 1)) else none := by
  show (match puS r a with
    | none => none
    | some f => if r a = 0 then some f else if f a = 0 ∧ f (a + r a) = 0 then some (va_up (va_up f a (a + r a + 1)) (a + r a) (a + 1)) else none) = _
  rw [h]
def mtC (m code : Nat) : Option (List Nat) := (puS (rch m code) m).map fun f => (List.range m).map f
def dgt (m code a : Nat) : Nat := code / 6 ^ (m - (a + 1)) % 6
def okR (m code a : Nat) : Bool := dgt m code a == 0 || (dgt m code a - 1 < m && dgt m code a - 1 != a && dgt m code (dgt m code a - 1) == a + 1)
def mtR (m code : Nat) : Option (List Nat) := if (List.range m).all (okR m code) then some ((List.range m).map (dgt m code)) else none
def mateL (m : Nat) : List (List Nat) := (List.range (fct m)).filterMap (mtC m)
theorem mate_eq0 : (List.range (6 ^ 0)).filterMap (mtR 0) = mateL 0 := by decide +kernel
theorem mate_eq1 : (List.range (6 ^ 1)).filterMap (mtR 1) = mateL 1 := by decide +kernel
theorem mate_eq2 : (List.range (6 ^ 2)).filterMap (mtR 2) = mateL 2 := by decide +kernel
theorem mate_eq3 : (List.range (6 ^ 3)).filterMap (mtR 3) = mateL 3 := by decide +kernel
theorem mate_eq4 : (List.range (6 ^ 4)).filterMap (mtR 4) = mateL 4 := by decide +kernel
theorem mate_eq5 : (List.range (6 ^ 5)).filterMap (mtR 5) = mateL 5 := by decide +kernel
theorem mate_eq {m : Nat} (h : m ≤ 5) : (List.range (6 ^ m)).filterMap (mtR m) = mateL m := by
  rcases (by omega : m = 0 ∨ m = 1 ∨ m = 2 ∨ m = 3 ∨ m = 4 ∨ m = 5) with rfl | rfl | rfl | rfl | rfl | rfl
  · exact mate_eq0
  · exact mate_eq1
  · exact mate_eq2
  · exact mate_eq3
  · exact mate_eq4
  · exact mate_eq5
/-- a mate as the class writes it -/
def vM (v : Nat) : Int32 := if v = 0 then -4 else nI (v - 1)
theorem vM_t {v : Nat} (h : v < 100) : (v = 0 → (vM v).toInt = -4) ∧ (v ≠ 0 → (vM v).toInt = (v : Int) - 1) := by
  constructor
  · intro z
    unfold vM
    rw [if_pos z]
    decide
  · intro z
    unfold vM
    rw [if_neg z, nI_toInt (by omega)]
    omega
/-- the turns of one and those behind -/
def ctr (S : zSo) (f : Nat → Nat) (a : Nat) : Nat := if a + 1 < f a then tn S a (f a - 1) else 0
theorem ctr_le {S : zSo} (ho : So S) (f : Nat → Nat) (a : Nat) : ctr S f a ≤ 18 := by
  unfold ctr
  split
  · exact tn_le ho _ _
  · omega
theorem sm_cong {f g : Nat → Nat} : ∀ n, (∀ i, i < n → f i = g i) → sm f n = sm g n
  | 0, _ => rfl
  | n + 1, h => by
    unfold sm
    rw [sm_cong n (fun i hi => h i (by omega)), h n (by omega)]
/-- one matching more -/
def bsp (S : zSo) (o : Option (List Nat × Nat)) (x : List Nat) : Option (List Nat × Nat) :=
  match o with
  | none => some (x, sm (ctr S fun a => x.getD a 0) (sn S))
  | some (y, s) => if s < sm (ctr S fun a => x.getD a 0) (sn S) then some (x, sm (ctr S fun a => x.getD a 0) (sn S)) else some (y, s)
def bst (S : zSo) (l : List (List Nat)) : Option (List Nat × Nat) := l.foldl (bsp S) none
theorem bst_no {S : zSo} {g : Nat → Option (List Nat)} {i : Nat} (h : g i = none) : bst S ((List.range (i + 1)).filterMap g) = bst S ((List.range i).filterMap g) := by
  rw [List.range_succ, List.filterMap_append]
  simp [h]
theorem bst_yes {S : zSo} {g : Nat → Option (List Nat)} {i : Nat} {x : List Nat} (h : g i = some x) : bst S ((List.range (i + 1)).filterMap g) = bsp S (bst S ((List.range i).filterMap g)) x := by
  rw [List.range_succ, List.filterMap_append]
  simp [h, bst, List.foldl_append]
/-- the greatest sum so far, 1 more -/
def bsV (o : Option (List Nat × Nat)) : Int32 := match o with | none => -1 | some (_, s) => nI s
/-- a list of what a function says -/
theorem mapr_at {m : Nat} {f : Nat → Nat} {a : Nat} (h : a < m) : ((List.range m).map f).getD a 0 = f a := by
  rw [List.getD_eq_getElem?_getD, List.getElem?_map, List.getElem?_range h]
  rfl
section MATCH0
variable {G : zG} {I : zI} {L : zJ} {Q : zP} {S : zSo} {m code : Nat}
theorem c_tellReaches (hm : m ≤ 5) (hc : code < 1000) (hq : ∀ I', (∀ a, a < m → I' 57 a = nI (rch m code a)) → (∀ q, q ≠ 57 → I' q = I q) → Q none I' L) : Zm G 5 [.ref 54, .int (nI code), .int (nI m)] I L Q := by
  have loop : ∀ (k : Nat) (u : Int32) (I1 : zI), u.toInt = (k : Int) - 1 → k ≤ m → (∀ a, k ≤ a → a < m → I1 57 a = nI (rch m code a)) → (∀ q, q ≠ 57 → I1 q = I q) → Zp G 5 7 [some (.ref 54), some (.int (nI code)), some (.int (nI m)), some (.int (nI (code / fct (m - k)))), some (.int u), none] [] I1 L Q := by
    intro k
    induction k with
    | zero =>
      intro u I1 hu hk h1 h2
      refine Zp.iload k_5_7 rfl ?_
      refine Zp.if_ltZ _ k_5_9 rfl (fun c_9 => ?_) (fun c_9 => absurd c_9 (by omega))
      refine Zp.vret k_5_40 vr_5 ?_
      exact hq I1 (fun a ha => h1 a (Nat.zero_le a) ha) h2
    | succ k ih =>
      intro u I1 hu hk h1 h2
      have eu : u = nI k := by rw [z_nI (x := u) (by omega), hu]; congr 1; omega
      subst eu
      have hd : code / fct (m - (k + 1)) ≤ code := Nat.div_le_self _ _
      have hr : code / fct (m - (k + 1)) % (m - k) < m - k := Nat.mod_lt _ (by omega)
      have e1 : code / fct (m - (k + 1)) / (m - k) = code / fct (m - k) := by
        rw [Nat.div_div_eq_div_mul]
        obtain ⟨n, hn⟩ : ∃ n, m - k = n + 1 := ⟨m - k - 1, by omega⟩
        rw [show m - (k + 1) = n by omega, hn]
        rfl
      refine Zp.iload k_5_7 rfl ?_
      refine Zp.if_ltN k_5_9 (by omega) ?_
      refine Zp.iload_n k_5_12 rfl ?_
      refine Zp.iload k_5_13 rfl ?_
      refine Zp.isubN k_5_15 (by omega) ?_
      refine Zp.istore [some (.ref _), some (.int _), some (.int _), some (.int _), some (.int _), some (.int _)] k_5_16 (Nat.lt_of_lt_of_eq (zlt rfl : 5 < 6) vl_5.symm) rfl ?_
      refine Zp.aload_n k_5_18 rfl ?_
      refine Zp.getR k_5_19 rfl (zlt rfl) m_54 r_54_3 ?_
      refine Zp.iload k_5_22 rfl ?_
      refine Zp.iload_n k_5_24 rfl ?_
      refine Zp.iload k_5_25 rfl ?_
      refine Zp.iremN k_5_27 (by omega) (by omega) (by omega) ?_
      refine Zp.iast _ k_5_28 m_57 rfl (by omega) (zlt rfl) ?_
      refine Zp.iload_n k_5_29 rfl ?_
      refine Zp.iload k_5_30 rfl ?_
      refine Zp.idivN k_5_32 (by omega) (by omega) (by omega) ?_
      rw [e1]
      refine Zp.istore_n [some (.ref _), some (.int _), some (.int _), some (.int _), some (.int _), some (.int _)] k_5_33 (Nat.lt_of_lt_of_eq (zlt rfl : 3 < 6) vl_5.symm) rfl ?_
      refine Zp.iinc _ [some (.ref _), some (.int _), some (.int _), some (.int _), some (.int _), some (.int _)] k_5_34 rfl rfl (Nat.lt_of_lt_of_eq (zlt rfl : 4 < 6) vl_5.symm) rfl ?_
      refine Zp.goto k_5_37 ?_
      refine Zp.locs _ (zle_sub ?_) (ih _ _ (idec (by omega)) (by omega) (fun a ha ha2 => ?_) (fun q h => by rw [zpu_q _ _ _ h]; exact h2 q h))
      · simp [zle]
      · by_cases e : a = k
        · subst e; rw [zpu_s]; rfl
        · rw [zpu_k _ _ _ e]; exact h1 a (by omega) ha2
  refine Zm.go [some (.ref _), some (.int _), some (.int _), none, none, none] vl_5 rfl ?_
  refine Zp.iload_n k_5_0 rfl ?_
  refine Zp.istore_n [some (.ref _), some (.int _), some (.int _), some (.int _), none, none] k_5_1 (Nat.lt_of_lt_of_eq (zlt rfl : 3 < 6) vl_5.symm) rfl ?_
  refine Zp.iload_n k_5_2 rfl ?_
  refine Zp.iconst (nI 1) k_5_3 (by decide) ?_
  refine Zp.isub k_5_4 ?_
  refine Zp.istore [some (.ref _), some (.int _), some (.int _), some (.int _), some (.int _), none] k_5_5 (Nat.lt_of_lt_of_eq (zlt rfl : 4 < 6) vl_5.symm) rfl ?_
  refine Zp.locs _ (zle_sub ?_) (loop m _ I (by have := zsubt (h := m) (l := 1) (by omega) (by omega); omega) (Nat.le_refl m) (fun a ha ha2 => absurd ha2 (by omega)) (fun _ _ => rfl))
  simp [zle, fct]
theorem c_pairsUp {r : Nat → Nat} (hm : m ≤ 5) (h57 : ∀ a, a < m → I 57 a = nI (r a)) (hr : ∀ a, a < m → r a < m - a)
    (hno : puS r m = none → ∀ I', (∀ q, q ≠ 56 → I' q = I q) → Q (some (.int (nI 0))) I' L)
    (hyes : ∀ f I', puS r m = some f → (∀ j, f j ≤ m) → (∀ j, j < m → I' 56 j = vM (f j)) → (∀ q, q ≠ 56 → I' q = I q) → Q (some (.int (nI 1))) I' L) : Zm G 6 [.ref 54, .int (nI m)] I L Q := by
  have second : ∀ k a (f : Nat → Nat) (I1 : zI), a + k = m → puS r a = some f → (∀ j, f j ≤ m) → (∀ j, j < m → I1 56 j = vM (f j)) → (∀ q, q ≠ 56 → I1 q = I q) → Zp G 6 23 [some (.ref 54), some (.int (nI m)), some (.int (nI a)), none] [] I1 L Q := by
    intro k
    induction k with
    | zero =>
      intro a f I1 ha hp hf h1 h2
      have e : a = m := by omega
      subst e
      refine Zp.iload_n k_6_23 rfl ?_
      refine Zp.iload_n k_6_24 rfl ?_
      refine Zp.icmp_geN k_6_25 (by omega) (by omega) (fun c_25 => ?_) (fun c_25 => absurd c_25 (by omega))
      refine Zp.iconst (nI 1) k_6_86 (by decide) ?_
      refine Zp.iret _ k_6_87 vr_6 rfl ?_
      exact hyes f I1 hp hf h1 h2
    | succ k ih =>
      intro a f I1 ha hp hf h1 h2
      have hra := hr a (by omega)
      have g57 : I1 57 a = nI (r a) := by rw [h2 57 (by decide)]; exact h57 a (by omega)
      have ga := h1 a (by omega)
      have gb := h1 (a + r a) (by omega)
      have fa := vM_t (v := f a) (by have := hf a; omega)
      have fb := vM_t (v := f (a + r a)) (by have := hf (a + r a); omega)
      have hs := puS_s hp
      have nx : ∀ (f2 : Nat → Nat) (I2 : zI), puS r (a + 1) = some f2 → (∀ j, f2 j ≤ m) → (∀ j, j < m → I2 56 j = vM (f2 j)) → (∀ q, q ≠ 56 → I2 q = I q) → Zp G 6 80 [some (.ref 54), some (.int (nI m)), some (.int (nI a)), some (.int (nI (a + r a)))] [] I2 L Q := by
        intro f2 I2 e2 hf2 g1 g2
        refine Zp.iinc (nI (_ + 1)) [some (.ref _), some (.int _), some (.int _), some (.int _)] k_6_80 rfl (nI_1 _) (Nat.lt_of_lt_of_eq (zlt rfl : 2 < 4) vl_6.symm) rfl ?_
        refine Zp.goto k_6_83 ?_
        exact Zp.locs _ (zle_sub (by simp [zle])) (ih (a + 1) f2 I2 (by omega) e2 hf2 g1 g2)
      refine Zp.iload_n k_6_23 rfl ?_
      refine Zp.iload_n k_6_24 rfl ?_
      refine Zp.icmp_geN k_6_25 (by omega) (by omega) (fun c_25 => absurd c_25 (by omega)) (fun c_25 => ?_)
      refine Zp.iload_n k_6_28 rfl ?_
      refine Zp.aload_n k_6_29 rfl ?_
      refine Zp.getR k_6_30 rfl (zlt rfl) m_54 r_54_3 ?_
      refine Zp.iload_n k_6_33 rfl ?_
      refine Zp.iald _ k_6_34 m_57 rfl (by omega) (zlt rfl) g57 ?_
      refine Zp.iaddN k_6_35 ?_
      refine Zp.istore_n [some (.ref _), some (.int _), some (.int _), some (.int _)] k_6_36 (Nat.lt_of_lt_of_eq (zlt rfl : 3 < 4) vl_6.symm) rfl ?_
      refine Zp.iload_n k_6_37 rfl ?_
      refine Zp.iload_n k_6_38 rfl ?_
      refine Zp.icmp_eqN k_6_39 (by omega) (by omega) (fun c_39 => ?_) (fun c_39 => ?_)
      · first
          | exact nx f I1 (by rw [hs, if_pos (by omega)]) hf h1 h2
          | (refine nx _ _ (by rw [hs, if_neg (by omega), if_pos ⟨by omega, by omega⟩]) (fun j => ?_) (fun j hj => ?_) (fun q h => by rw [zpu_q _ _ _ h, zpu_q _ _ _ h]; exact h2 q h)
             · have := hf j
               unfold va_up
               split
               · omega
               · split
                 · omega
                 · exact this
             · by_cases e1 : j = a + r a
               · subst e1; rw [zpu_s, va_up_s]; unfold vM; rw [if_neg (by omega)]; rfl
               · rw [zpu_k _ _ _ e1, va_up_n _ _ e1]
                 by_cases e2 : j = a
                 · subst e2; rw [zpu_s, va_up_s]; unfold vM; rw [if_neg (by omega)]; rfl
                 · rw [zpu_k _ _ _ e2, va_up_n _ _ e2]; exact h1 j hj)
      · refine Zp.aload_n k_6_42 rfl ?_
        refine Zp.getR k_6_43 rfl (zlt rfl) m_54 r_54_2 ?_
        refine Zp.iload_n k_6_46 rfl ?_
        refine Zp.iald _ k_6_47 m_56 rfl (by omega) (zlt rfl) ga ?_
        refine Zp.bipush (-4) k_6_48 (by decide) ?_
        refine Zp.icmp_neZ _ (-4) k_6_50 rfl (by decide) (fun c_50 => ?_) (fun c_50 => ?_)
        · refine Zp.iconst (nI 0) k_6_64 (by decide) ?_
          refine Zp.iret _ k_6_65 vr_6 rfl ?_
          have e0 := puS_none (by rw [hs, if_neg (by omega), if_neg (by omega)]) k
          rw [show a + 1 + k = m by omega] at e0
          exact hno e0 I1 h2
        · refine Zp.aload_n k_6_53 rfl ?_
          refine Zp.getR k_6_54 rfl (zlt rfl) m_54 r_54_2 ?_
          refine Zp.iload_n k_6_57 rfl ?_
          refine Zp.iald _ k_6_58 m_56 rfl (by omega) (zlt rfl) gb ?_
          refine Zp.bipush (-4) k_6_59 (by decide) ?_
          refine Zp.icmp_eqZ _ (-4) k_6_61 rfl (by decide) (fun c_61 => ?_) (fun c_61 => ?_)
          · refine Zp.aload_n k_6_66 rfl ?_
            refine Zp.getR k_6_67 rfl (zlt rfl) m_54 r_54_2 ?_
            refine Zp.iload_n k_6_70 rfl ?_
            refine Zp.iload_n k_6_71 rfl ?_
            refine Zp.iast _ k_6_72 m_56 rfl (by omega) (zlt rfl) ?_
            refine Zp.aload_n k_6_73 rfl ?_
            refine Zp.getR k_6_74 rfl (zlt rfl) m_54 r_54_2 ?_
            refine Zp.iload_n k_6_77 rfl ?_
            refine Zp.iload_n k_6_78 rfl ?_
            refine Zp.iast _ k_6_79 m_56 rfl (by omega) (zlt rfl) ?_
            first
              | exact nx f I1 (by rw [hs, if_pos (by omega)]) hf h1 h2
              | (refine nx _ _ (by rw [hs, if_neg (by omega), if_pos ⟨by omega, by omega⟩]) (fun j => ?_) (fun j hj => ?_) (fun q h => by rw [zpu_q _ _ _ h, zpu_q _ _ _ h]; exact h2 q h)
                 · have := hf j
                   unfold va_up
                   split
                   · omega
                   · split
                     · omega
                     · exact this
                 · by_cases e1 : j = a + r a
                   · subst e1; rw [zpu_s, va_up_s]; unfold vM; rw [if_neg (by omega)]; rfl
                   · rw [zpu_k _ _ _ e1, va_up_n _ _ e1]
                     by_cases e2 : j = a
                     · subst e2; rw [zpu_s, va_up_s]; unfold vM; rw [if_neg (by omega)]; rfl
                     · rw [zpu_k _ _ _ e2, va_up_n _ _ e2]; exact h1 j hj)
          · refine Zp.iconst (nI 0) k_6_64 (by decide) ?_
            refine Zp.iret _ k_6_65 vr_6 rfl ?_
            have e0 := puS_none (by rw [hs, if_neg (by omega), if_neg (by omega)]) k
            rw [show a + 1 + k = m by omega] at e0
            exact hno e0 I1 h2
  have first1 : ∀ k a (I1 : zI), a + k = m → (∀ j, j < a → I1 56 j = -4) → (∀ q, q ≠ 56 → I1 q = I q) → Zp G 6 2 [some (.ref 54), some (.int (nI m)), some (.int (nI a)), none] [] I1 L Q := by
    intro k
    induction k with
    | zero =>
      intro a I1 ha h1 h2
      have e : a = m := by omega
      subst e
      refine Zp.iload_n k_6_2 rfl ?_
      refine Zp.iload_n k_6_3 rfl ?_
      refine Zp.icmp_geN k_6_4 (by omega) (by omega) (fun c_4 => ?_) (fun c_4 => absurd c_4 (by omega))
      refine Zp.iconst (nI 0) k_6_21 (by decide) ?_
      refine Zp.istore_n [some (.ref _), some (.int _), some (.int _), none] k_6_22 (Nat.lt_of_lt_of_eq (zlt rfl : 2 < 4) vl_6.symm) rfl ?_
      exact second a 0 (fun _ => 0) I1 (by omega) rfl (fun _ => Nat.zero_le _) h1 h2
    | succ k ih =>
      intro a I1 ha h1 h2
      refine Zp.iload_n k_6_2 rfl ?_
      refine Zp.iload_n k_6_3 rfl ?_
      refine Zp.icmp_geN k_6_4 (by omega) (by omega) (fun c_4 => absurd c_4 (by omega)) (fun c_4 => ?_)
      refine Zp.aload_n k_6_7 rfl ?_
      refine Zp.getR k_6_8 rfl (zlt rfl) m_54 r_54_2 ?_
      refine Zp.iload_n k_6_11 rfl ?_
      refine Zp.bipush (-4) k_6_12 (by decide) ?_
      refine Zp.iast _ k_6_14 m_56 rfl (by omega) (zlt rfl) ?_
      refine Zp.iinc (nI (_ + 1)) [some (.ref _), some (.int _), some (.int _), none] k_6_15 rfl (nI_1 _) (Nat.lt_of_lt_of_eq (zlt rfl : 2 < 4) vl_6.symm) rfl ?_
      refine Zp.goto k_6_18 ?_
      refine ih (a + 1) _ (by omega) (fun j hj => ?_) (fun q h => by rw [zpu_q _ _ _ h]; exact h2 q h)
      by_cases e : j = a
      · subst e; rw [zpu_s]
      · rw [zpu_k _ _ _ e]; exact h1 j (by omega)
  refine Zm.go [some (.ref _), some (.int _), none, none] vl_6 rfl ?_
  refine Zp.iconst (nI 0) k_6_0 (by decide) ?_
  refine Zp.istore_n [some (.ref _), some (.int _), some (.int _), none] k_6_1 (Nat.lt_of_lt_of_eq (zlt rfl : 2 < 4) vl_6.symm) rfl ?_
  exact first1 m 0 I (by omega) (fun j hj => absurd hj (Nat.not_lt_zero j)) (fun _ _ => rfl)
theorem c_takeIfMore {f : Nat → Nat} {most : Int32} (hp : Sp I 2 S) (ho : So S) (h0 : I 54 0 = most) (h56 : ∀ j, j < sn S → I 56 j = vM (f j)) (hf : ∀ j, f j ≤ sn S)
    (hno : ¬ most.toInt < sm (ctr S f) (sn S) → Q none I L)
    (hyes : most.toInt < sm (ctr S f) (sn S) → ∀ I', I' 54 0 = nI (sm (ctr S f) (sn S)) → (∀ j, j < sn S → I' 55 j = vM (f j)) → (∀ q, q ≠ 54 → q ≠ 55 → I' q = I q) → Q none I' L) : Zm G 7 [.ref 54, .ref 2] I L Q := by
  have o1 := ho.1
  have hsl := fun n => sm_le (f := ctr S f) (m := 18) (ctr_le ho f) n
  have loop : ∀ k a, a + k = sn S → Zp G 7 4 [some (.ref 54), some (.ref 2), some (.int (nI (sm (ctr S f) a))), some (.int (nI a))] [] I L Q := by
    intro k
    induction k with
    | zero =>
      intro a ha
      have e : a = sn S := by omega
      have hb := hsl a
      subst e
      refine Zp.iload_n k_7_4 rfl ?_
      refine Zp.aload_n k_7_5 rfl ?_
      refine Zp.getV k_7_6 rfl (zlt rfl) m_2 hp.1 ?_
      refine Zp.icmp_geN k_7_9 (by omega) (by omega) (fun c_9 => ?_) (fun c_9 => absurd c_9 (by omega))
      refine Zp.iload_n k_7_42 rfl ?_
      refine Zp.aload_n k_7_43 rfl ?_
      refine Zp.getV k_7_44 rfl (zlt rfl) m_54 h0 ?_
      refine Zp.icmp_leZ _ _ k_7_47 (nI_toInt (by omega)) rfl (fun c_47 => ?_) (fun c_47 => ?_)
      · refine Zp.vret k_7_69 vr_7 ?_
        first
          | exact hno (by omega)
          | (refine hyes (by omega) _ (by rw [va_up_n _ _ (by decide), zpu_s]) (fun j hj => ?_) (fun q a b => by rw [va_up_n _ _ b, zpu_q _ _ _ a])
             rw [va_up_s, sb_cpy0 (by omega), zpu_q _ _ _ (by decide)]
             exact h56 j hj)
      · refine Zp.aload_n k_7_50 rfl ?_
        refine Zp.iload_n k_7_51 rfl ?_
        refine Zp.putI k_7_52 rfl (zlt rfl) m_54 ?_
        refine Zp.aload_n k_7_55 rfl ?_
        refine Zp.getR k_7_56 rfl (zlt rfl) m_54 r_54_2 ?_
        refine Zp.iconst (nI 0) k_7_59 (by decide) ?_
        refine Zp.aload_n k_7_60 rfl ?_
        refine Zp.getR k_7_61 rfl (zlt rfl) m_54 r_54_1 ?_
        refine Zp.iconst (nI 0) k_7_64 (by decide) ?_
        refine Zp.iconst (nI 5) k_7_65 (by decide) ?_
        refine Zp.copy (sp := 0) (dp := 0) k_7_66 (Nat.le_of_ble_eq_true rfl) m_56 m_55 rfl rfl rfl (Nat.le_of_ble_eq_true rfl) (Nat.le_of_ble_eq_true rfl) (zlt rfl) (zlt rfl) ?_
        refine Zp.vret k_7_69 vr_7 ?_
        first
          | exact hno (by omega)
          | (refine hyes (by omega) _ (by rw [va_up_n _ _ (by decide), zpu_s]) (fun j hj => ?_) (fun q a b => by rw [va_up_n _ _ b, zpu_q _ _ _ a])
             rw [va_up_s, sb_cpy0 (by omega), zpu_q _ _ _ (by decide)]
             exact h56 j hj)
    | succ k ih =>
      intro a ha
      have hb := hsl a
      have ga := h56 a (by omega)
      have fa := vM_t (v := f a) (by have := hf a; omega)
      have hfa := hf a
      have ht := tn_le ho a (f a - 1)
      have ih1 := ih (a + 1) (by omega)
      have hs : sm (ctr S f) (a + 1) = sm (ctr S f) a + ctr S f a := rfl
      refine Zp.iload_n k_7_4 rfl ?_
      refine Zp.aload_n k_7_5 rfl ?_
      refine Zp.getV k_7_6 rfl (zlt rfl) m_2 hp.1 ?_
      refine Zp.icmp_geN k_7_9 (by omega) (by omega) (fun c_9 => absurd c_9 (by omega)) (fun c_9 => ?_)
      refine Zp.aload_n k_7_12 rfl ?_
      refine Zp.getR k_7_13 rfl (zlt rfl) m_54 r_54_2 ?_
      refine Zp.iload_n k_7_16 rfl ?_
      refine Zp.iald _ k_7_17 m_56 rfl (by omega) (zlt rfl) ga ?_
      refine Zp.iload_n k_7_18 rfl ?_
      refine Zp.icmp_leZ _ _ k_7_19 rfl (nI_toInt (by omega)) (fun c_19 => ?_) (fun c_19 => ?_)
      · refine Zp.iinc (nI (_ + 1)) [some (.ref _), some (.ref _), some (.int _), some (.int _)] k_7_36 rfl (nI_1 _) (Nat.lt_of_lt_of_eq (zlt rfl : 3 < 4) vl_7.symm) rfl ?_
        refine Zp.goto k_7_39 ?_
        have hc2 : ctr S f a = if a + 1 < f a then tn S a (f a - 1) else 0 := rfl
        first
          | (rw [if_pos (by omega)] at hc2; rw [hs, hc2] at ih1; exact ih1)
          | (rw [if_neg (by omega)] at hc2; rw [hs, hc2] at ih1; exact ih1)
      · refine Zp.iload_n k_7_22 rfl ?_
        refine Zp.aload_n k_7_23 rfl ?_
        refine Zp.iload_n k_7_24 rfl ?_
        refine Zp.aload_n k_7_25 rfl ?_
        refine Zp.getR k_7_26 rfl (zlt rfl) m_54 r_54_2 ?_
        refine Zp.iload_n k_7_29 rfl ?_
        refine Zp.iald _ k_7_30 m_56 rfl (by omega) (zlt rfl) ga ?_
        have e3 : vM (f a) = nI (f a - 1) := if_neg (by omega)
        rw [e3]
        refine Zp.callv2I v_61 k_7_31 m_2 (Nat.le_of_ble_eq_true rfl) (Nat.le_of_ble_eq_true rfl) (c_turnOf sa_2 hp ho (by omega) (by omega) ⟨_, rfl, ?_⟩)
        refine Zp.iaddN k_7_34 ?_
        refine Zp.istore_n [some (.ref _), some (.ref _), some (.int _), some (.int _)] k_7_35 (Nat.lt_of_lt_of_eq (zlt rfl : 2 < 4) vl_7.symm) rfl ?_
        refine Zp.iinc (nI (_ + 1)) [some (.ref _), some (.ref _), some (.int _), some (.int _)] k_7_36 rfl (nI_1 _) (Nat.lt_of_lt_of_eq (zlt rfl : 3 < 4) vl_7.symm) rfl ?_
        refine Zp.goto k_7_39 ?_
        have hc2 : ctr S f a = if a + 1 < f a then tn S a (f a - 1) else 0 := rfl
        first
          | (rw [if_pos (by omega)] at hc2; rw [hs, hc2] at ih1; exact ih1)
          | (rw [if_neg (by omega)] at hc2; rw [hs, hc2] at ih1; exact ih1)
  refine Zm.go [some (.ref _), some (.ref _), none, none] vl_7 rfl ?_
  refine Zp.iconst (nI 0) k_7_0 (by decide) ?_
  refine Zp.istore_n [some (.ref _), some (.ref _), some (.int _), none] k_7_1 (Nat.lt_of_lt_of_eq (zlt rfl : 2 < 4) vl_7.symm) rfl ?_
  refine Zp.iconst (nI 0) k_7_2 (by decide) ?_
  refine Zp.istore_n [some (.ref _), some (.ref _), some (.int _), some (.int _)] k_7_3 (Nat.lt_of_lt_of_eq (zlt rfl : 3 < 4) vl_7.symm) rfl ?_
  exact loop (sn S) 0 (by omega)
end MATCH0
