/-! THE TEXT: what it tells -/
def sbd {α β : Type} (x : Sum zFl α) (f : α → Sum zFl β) : Sum zFl β := match x with
  | .inl e => .inl e
  | .inr y => f y
theorem sbd_l {α β : Type} {x : Sum zFl α} {f : α → Sum zFl β} {e : zFl} (h : x = .inl e) : sbd x f = .inl e := by rw [h]; rfl
theorem sbd_r {α β : Type} {x : Sum zFl α} {f : α → Sum zFl β} {y : α} (h : x = .inr y) : sbd x f = f y := by rw [h]; rfl
theorem sbd_inv {α β : Type} {x : Sum zFl α} {f : α → Sum zFl β} {z : β} (h : sbd x f = .inr z) : ∃ y, x = .inr y ∧ f y = .inr z := by
  cases x with
  | inl e => exact absurd h (by simp [sbd])
  | inr y => exact ⟨y, rfl, h⟩
/-- a draft: the kitchen, which hatreds are told (bits), whether the pot is, the greatest helper and 1 -/
abbrev zD : Type := zKi × Int32 × Nat × Nat
abbrev dK (D : zD) : zKi := D.1
abbrev dw (D : zD) : Int32 := D.2.1
abbrev dp (D : zD) : Nat := D.2.2.1
abbrev dh (D : zD) : Nat := D.2.2.2
def hm (bo a b : Nat) : Int32 := (nI 1 <<< (nI (a * 5 + b) &&& 31)) ||| (if bo = 1 then nI 1 <<< (nI (b * 5 + a) &&& 31) else nI 0)
def hatD (D : zD) (bo a b v : Nat) : zD := ((if bo = 1 then sUh (sUh (kS (dK D)) (a * 5 + b) v) (b * 5 + a) v else sUh (kS (dK D)) (a * 5 + b) v, (dK D).2), dw D ||| hm bo a b, dp D, max (max (dh D) (a + 1)) (b + 1))
def potD (D : zD) (n1 n2 : Nat) : zD := ((sUnoon (sUneed (kS (dK D)) n1) n2, (dK D).2), dw D, 1, dh D)
def slpD (D : zD) (a b c : Nat) : zD := ((kS (dK D), sAdd (kP (dK D)) a b c, (dK D).2.2), dw D, dp D, max (max (dh D) (a + 1)) (b + 1))
def plnD (D : zD) (a b : Nat) : zD := ((kS (dK D), kP (dK D), pAdd (kU (dK D)) a b, kE (dK D)), dw D, dp D, max (max (dh D) (a + 1)) (b + 1))
def hlpD (D : zD) (k : Nat) : zD := (((sn (kS (dK D)) + 1, sneed (kS (dK D)), snoon (kS (dK D)), sstep (kS (dK D)), sdone (kS (dK D)), sset (kS (dK D)), va_up (skd (kS (dK D))) (sn (kS (dK D))) k, sht (kS (dK D))), (dK D).2), dw D, dp D, dh D)
def hatS (T : zTp) (bo : Nat) (D : zD) (p : Nat) : Sum zFl (zD × Nat) := sbd (rdH T (-1) p) fun y => sbd (rdH T y.1 y.2) fun z => if (dw D &&& hm bo y.1 z.1) = 0 then sbd (rdN T 0 9 z.2) fun u => .inr (hatD D bo y.1 z.1 u.1, u.2) else .inl (4, (tok T y.2).2.1)
def potS (T : zTp) (s : Nat) (D : zD) (p : Nat) : Sum zFl (zD × Nat) := if dp D = 1 then .inl (4, s) else sbd (rdN T 1 99 p) fun y => sbd (rdN T 1 12 y.2) fun z => .inr (potD D y.1 z.1, z.2)
def slpS (T : zTp) (s : Nat) (D : zD) (p : Nat) : Sum zFl (zD × Nat) := if 6 ≤ lc (kP (dK D)) then .inl (5, s) else sbd (rdH T (-1) p) fun y => sbd (rdH T y.1 y.2) fun z => sbd (rdN T 1 9 z.2) fun u => .inr (slpD D y.1 z.1 u.1, u.2)
def plnS (T : zTp) (s : Nat) (D : zD) (p : Nat) : Sum zFl (zD × Nat) := if 8 ≤ (kU (dK D)).1 then .inl (5, s) else sbd (rdH T (-1) p) fun y => sbd (rdH T y.1 y.2) fun z => .inr (plnD D y.1 z.1, z.2)
def hlpS (s : Nat) (D : zD) (k p : Nat) : Sum zFl (zD × Nat) := if 5 ≤ sn (kS (dK D)) then .inl (5, s) else .inr (hlpD D k, p)
def lneS (T : zTp) (D : zD) (s k p : Nat) : Sum zFl (zD × Nat) := if k = 9 then .inl (2, s) else if k = 8 then plnS T s D p else if k = 7 then slpS T s D p else if k = 6 then potS T s D p else if k = 5 then hatS T 1 D p else if k = 4 then hatS T 0 D p else hlpS s D k p
def lnS (T : zTp) (D : zD) (t : Nat × Nat × Nat) : Sum zFl (zD × Nat) := if t.1 = 4 then .inl (1, t.2.1) else if ¬ t.1 = 0 then .inl (2, t.2.1) else sbd (lneS T D t.2.1 (nmK T t.2.1 t.2.2) t.2.2) fun y => sbd (smc T y.2) fun e => .inr (y.1, e)
/-- all lines from p on, so many told -/
def prs (T : zTp) : Nat → zD → Nat → Nat → Sum zFl (zD × Nat)
  | 0, _, _, _ => .inl (0, 0)
  | k + 1, D, p, n => if (tok T p).1 = 3 then (if dh D ≤ sn (kS (dK D)) then .inr (D, n) else .inl (6, (tok T p).2.1)) else sbd (lnS T D (tok T p)) fun y => prs T k y.1 y.2 (n + 1)
def Do (D : zD) : Prop := So (kS (dK D)) ∧ sstep (kS (dK D)) = 0 ∧ (∀ a b, a < 5 → b < 5 → (dh D ≤ a ∨ dh D ≤ b ∨ a = b) → sht (kS (dK D)) (a * 5 + b) = 0) ∧ Lo (dh D) (kP (dK D)) ∧ lu (kP (dK D)) = 0 ∧ Po (dh D) (kU (dK D)) ∧ (kE (dK D)).1 = 0 ∧ dh D ≤ 5 ∧ dp D ≤ 1
theorem Lo.up {n m : Nat} {P : zSl} (h : Lo n P) (hn : n ≤ m) : Lo m P := ⟨h.1, h.2.1, fun i hi => by have := h.2.2 i hi; omega⟩
theorem Po.up {n m : Nat} {P : zPl} (h : Po n P) (hn : n ≤ m) : Po m P := ⟨h.1, fun i hi => by have := h.2 i hi; omega⟩
theorem hat_do {D : zD} {bo a b v : Nat} (h : Do D) (ha : a ≤ 4) (hb : b ≤ 4) (hab : ¬ a = b) (hv : v ≤ 9) : Do (hatD D bo a b v) := by
  obtain ⟨h1, h2, h3, h4, h5, h6, h7, h8, h9⟩ := h
  have one : ∀ (S : zSo) (c d : Nat), c ≤ 4 → d ≤ 4 → ¬ c = d → c < max (max (dh D) (a + 1)) (b + 1) → d < max (max (dh D) (a + 1)) (b + 1) → (∀ a' b', a' < 5 → b' < 5 → (max (max (dh D) (a + 1)) (b + 1) ≤ a' ∨ max (max (dh D) (a + 1)) (b + 1) ≤ b' ∨ a' = b') → sht S (a' * 5 + b') = 0) → ∀ a' b', a' < 5 → b' < 5 → (max (max (dh D) (a + 1)) (b + 1) ≤ a' ∨ max (max (dh D) (a + 1)) (b + 1) ≤ b' ∨ a' = b') → sht (sUh S (c * 5 + d) v) (a' * 5 + b') = 0 := by
    intro S c d hc hd hcd hc2 hd2 hS a' b' ha' hb' hh
    show va_up (sht S) (c * 5 + d) v (a' * 5 + b') = 0
    rw [va_up_n _ _ (by omega)]
    exact hS a' b' ha' hb' hh
  have base : ∀ a' b', a' < 5 → b' < 5 → (max (max (dh D) (a + 1)) (b + 1) ≤ a' ∨ max (max (dh D) (a + 1)) (b + 1) ≤ b' ∨ a' = b') → sht (kS (dK D)) (a' * 5 + b') = 0 := fun a' b' ha' hb' hh => h3 a' b' ha' hb' (by omega)
  unfold hatD
  split
  · exact ⟨(h1.uh hv).uh hv, h2, one _ b a hb ha (fun z => hab z.symm) (by omega) (by omega) (one _ a b ha hb hab (by omega) (by omega) base), h4.up (by show dh D ≤ max (max (dh D) (a + 1)) (b + 1); omega), h5, h6.up (by show dh D ≤ max (max (dh D) (a + 1)) (b + 1); omega), h7, by show max (max (dh D) (a + 1)) (b + 1) ≤ 5; omega, h9⟩
  · exact ⟨h1.uh hv, h2, one _ a b ha hb hab (by omega) (by omega) base, h4.up (by show dh D ≤ max (max (dh D) (a + 1)) (b + 1); omega), h5, h6.up (by show dh D ≤ max (max (dh D) (a + 1)) (b + 1); omega), h7, by show max (max (dh D) (a + 1)) (b + 1) ≤ 5; omega, h9⟩
theorem pot_do {D : zD} {n1 n2 : Nat} (h : Do D) (hn1 : n1 ≤ 99) (hn2 : n2 ≤ 12) : Do (potD D n1 n2) := by
  obtain ⟨⟨q1, q2, q3, q4, q5, q6, q7⟩, h2, h3, h4, h5, h6, h7, h8, h9⟩ := h
  exact ⟨⟨q1, hn1, hn2, q4, q5, q6, q7⟩, h2, h3, h4, h5, h6, h7, h8, Nat.le_refl 1⟩
theorem slp_do {D : zD} {a b c : Nat} (h : Do D) (ha : a ≤ 4) (hb : b ≤ 4) (hab : ¬ a = b) (hc : 1 ≤ c ∧ c ≤ 9) (hf : ¬ 6 ≤ lc (kP (dK D))) : Do (slpD D a b c) := by
  obtain ⟨h1, h2, h3, h4, h5, h6, h7, h8, h9⟩ := h
  obtain ⟨g1, g2, g3⟩ := h4
  refine ⟨h1, h2, fun a' b' ha' hb' hh => h3 a' b' ha' hb' (by have h9 : max (max (dh D) (a + 1)) (b + 1) ≤ a' ∨ max (max (dh D) (a + 1)) (b + 1) ≤ b' ∨ a' = b' := hh; omega), ⟨by show lc (kP (dK D)) + 1 ≤ 6; omega, g2, fun i hi => ?_⟩, h5, h6.up (by show dh D ≤ max (max (dh D) (a + 1)) (b + 1); omega), h7, by show max (max (dh D) (a + 1)) (b + 1) ≤ 5; omega, h9⟩
  have hi2 : i < lc (kP (dK D)) + 1 := hi
  show va_up (l1 (kP (dK D))) (lc (kP (dK D))) a i < max (max (dh D) (a + 1)) (b + 1) ∧ va_up (l2 (kP (dK D))) (lc (kP (dK D))) b i < max (max (dh D) (a + 1)) (b + 1) ∧ ¬ va_up (l1 (kP (dK D))) (lc (kP (dK D))) a i = va_up (l2 (kP (dK D))) (lc (kP (dK D))) b i ∧ 1 ≤ va_up (l3 (kP (dK D))) (lc (kP (dK D))) c i ∧ va_up (l3 (kP (dK D))) (lc (kP (dK D))) c i ≤ 9
  by_cases e : i = lc (kP (dK D))
  · subst e
    rw [va_up_s, va_up_s, va_up_s]
    omega
  · rw [va_up_n _ _ e, va_up_n _ _ e, va_up_n _ _ e]
    have := g3 i (by omega)
    omega
theorem pln_do {D : zD} {a b : Nat} (h : Do D) (ha : a ≤ 4) (hb : b ≤ 4) (hab : ¬ a = b) (hf : ¬ 8 ≤ (kU (dK D)).1) : Do (plnD D a b) := by
  obtain ⟨h1, h2, h3, h4, h5, h6, h7, h8, h9⟩ := h
  obtain ⟨g1, g2⟩ := h6
  refine ⟨h1, h2, fun a' b' ha' hb' hh => h3 a' b' ha' hb' (by have h9 : max (max (dh D) (a + 1)) (b + 1) ≤ a' ∨ max (max (dh D) (a + 1)) (b + 1) ≤ b' ∨ a' = b' := hh; omega), h4.up (by show dh D ≤ max (max (dh D) (a + 1)) (b + 1); omega), h5, ⟨by show (kU (dK D)).1 + 1 ≤ 8; omega, fun i hi => ?_⟩, h7, by show max (max (dh D) (a + 1)) (b + 1) ≤ 5; omega, h9⟩
  have hi2 : i < (kU (dK D)).1 + 1 := hi
  show va_up (kU (dK D)).2 (kU (dK D)).1 (10 * min a b + max a b) i / 10 < va_up (kU (dK D)).2 (kU (dK D)).1 (10 * min a b + max a b) i % 10 ∧ va_up (kU (dK D)).2 (kU (dK D)).1 (10 * min a b + max a b) i % 10 < max (max (dh D) (a + 1)) (b + 1) ∧ va_up (kU (dK D)).2 (kU (dK D)).1 (10 * min a b + max a b) i < 100
  by_cases e : i = (kU (dK D)).1
  · subst e
    rw [va_up_s]
    omega
  · rw [va_up_n _ _ e]
    have := g2 i (by omega)
    omega
theorem hlp_do {D : zD} {k : Nat} (h : Do D) (hk : k ≤ 3) (hf : ¬ 5 ≤ sn (kS (dK D))) : Do (hlpD D k) := by
  obtain ⟨⟨q1, q2, q3, q4, q5, q6, q7⟩, h2, h3, h4, h5, h6, h7, h8, h9⟩ := h
  refine ⟨⟨by show sn (kS (dK D)) + 1 ≤ 5; omega, q2, q3, q4, q5, fun a => ?_, q7⟩, h2, h3, h4, h5, h6, h7, h8, h9⟩
  show va_up (skd (kS (dK D))) (sn (kS (dK D))) k a ≤ 3
  unfold va_up
  split
  · exact hk
  · exact q6 a
theorem hatS_ok {T : zTp} {bo : Nat} {D D' : zD} {p p' : Nat} (hp : p ≤ T.1) (ho : Do D) (h : hatS T bo D p = .inr (D', p')) : Do D' ∧ p < p' ∧ p' ≤ T.1 := by
  obtain ⟨y, h1, h⟩ := sbd_inv h
  obtain ⟨z, h2, h⟩ := sbd_inv h
  have r1 := rdH_ok hp h1
  have r2 := rdH_ok r1.2.2.1 h2
  have h3 : (if (dw D &&& hm bo y.1 z.1) = 0 then sbd (rdN T 0 9 z.2) fun u => Sum.inr (hatD D bo y.1 z.1 u.1, u.2) else .inl (4, (tok T y.2).2.1)) = (.inr (D', p') : Sum zFl (zD × Nat)) := h
  split at h3
  · obtain ⟨u, h4, h⟩ := sbd_inv h3
    have r3 := rdN_ok r2.2.2.1 h4
    have e := Sum.inr.inj h
    have e1 : hatD D bo y.1 z.1 u.1 = D' := congrArg Prod.fst e
    have e2 : u.2 = p' := congrArg Prod.snd e
    have n1 := r2.2.2.2.1
    rw [← e1, ← e2]
    exact ⟨hat_do ho r1.1 r2.1 (by omega) r3.2.1, by omega, r3.2.2.2.1⟩
  · exact absurd h3 (by simp)
theorem potS_ok {T : zTp} {s : Nat} {D D' : zD} {p p' : Nat} (hp : p ≤ T.1) (ho : Do D) (h : potS T s D p = .inr (D', p')) : Do D' ∧ p < p' ∧ p' ≤ T.1 := by
  unfold potS at h
  split at h
  · exact absurd h (by simp)
  · obtain ⟨y, h1, h⟩ := sbd_inv h
    obtain ⟨z, h2, h⟩ := sbd_inv h
    have r1 := rdN_ok hp h1
    have r2 := rdN_ok r1.2.2.2.1 h2
    have e := Sum.inr.inj h
    have e1 : potD D y.1 z.1 = D' := congrArg Prod.fst e
    have e2 : z.2 = p' := congrArg Prod.snd e
    rw [← e1, ← e2]
    exact ⟨pot_do ho r1.2.1 r2.2.1, by omega, r2.2.2.2.1⟩
theorem slpS_ok {T : zTp} {s : Nat} {D D' : zD} {p p' : Nat} (hp : p ≤ T.1) (ho : Do D) (h : slpS T s D p = .inr (D', p')) : Do D' ∧ p < p' ∧ p' ≤ T.1 := by
  unfold slpS at h
  split at h
  · exact absurd h (by simp)
  · rename_i hf
    obtain ⟨y, h1, h⟩ := sbd_inv h
    obtain ⟨z, h2, h⟩ := sbd_inv h
    obtain ⟨u, h3, h⟩ := sbd_inv h
    have r1 := rdH_ok hp h1
    have r2 := rdH_ok r1.2.2.1 h2
    have r3 := rdN_ok r2.2.2.1 h3
    have e := Sum.inr.inj h
    have e1 : slpD D y.1 z.1 u.1 = D' := congrArg Prod.fst e
    have e2 : u.2 = p' := congrArg Prod.snd e
    have n1 := r2.2.2.2.1
    rw [← e1, ← e2]
    exact ⟨slp_do ho r1.1 r2.1 (by omega) ⟨r3.1, r3.2.1⟩ hf, by omega, r3.2.2.2.1⟩
theorem plnS_ok {T : zTp} {s : Nat} {D D' : zD} {p p' : Nat} (hp : p ≤ T.1) (ho : Do D) (h : plnS T s D p = .inr (D', p')) : Do D' ∧ p < p' ∧ p' ≤ T.1 := by
  unfold plnS at h
  split at h
  · exact absurd h (by simp)
  · rename_i hf
    obtain ⟨y, h1, h⟩ := sbd_inv h
    obtain ⟨z, h2, h⟩ := sbd_inv h
    have r1 := rdH_ok hp h1
    have r2 := rdH_ok r1.2.2.1 h2
    have e := Sum.inr.inj h
    have e1 : plnD D y.1 z.1 = D' := congrArg Prod.fst e
    have e2 : z.2 = p' := congrArg Prod.snd e
    have n1 := r2.2.2.2.1
    rw [← e1, ← e2]
    exact ⟨pln_do ho r1.1 r2.1 (by omega) hf, by omega, r2.2.2.1⟩
theorem lneS_ok {T : zTp} {s k : Nat} {D D' : zD} {p p' : Nat} (hp : p ≤ T.1) (hk : k ≤ 9) (ho : Do D) (h : lneS T D s k p = .inr (D', p')) : Do D' ∧ p ≤ p' ∧ p' ≤ T.1 := by
  unfold lneS at h
  have le : Do D' ∧ p < p' ∧ p' ≤ T.1 → Do D' ∧ p ≤ p' ∧ p' ≤ T.1 := fun z => ⟨z.1, by omega, z.2.2⟩
  split at h
  · exact absurd h (by simp)
  · split at h
    · exact le (plnS_ok hp ho h)
    · split at h
      · exact le (slpS_ok hp ho h)
      · split at h
        · exact le (potS_ok hp ho h)
        · split at h
          · exact le (hatS_ok hp ho h)
          · split at h
            · exact le (hatS_ok hp ho h)
            · unfold hlpS at h
              split at h
              · exact absurd h (by simp)
              · rename_i hf
                have e := Sum.inr.inj h
                have e1 : hlpD D k = D' := congrArg Prod.fst e
                have e2 : p = p' := congrArg Prod.snd e
                rw [← e1, ← e2]
                exact ⟨hlp_do ho (by omega) hf, Nat.le_refl p, hp⟩
theorem lnS_ok {T : zTp} {D D' : zD} {p p' : Nat} (hp : p ≤ T.1) (ho : Do D) (h : lnS T D (tok T p) = .inr (D', p')) : Do D' ∧ p < p' ∧ p' ≤ T.1 := by
  have t := tok_ok T hp
  unfold lnS at h
  split at h
  · exact absurd h (by simp)
  · split at h
    · exact absurd h (by simp)
    · obtain ⟨y, h1, h⟩ := sbd_inv h
      obtain ⟨e, h2, h⟩ := sbd_inv h
      have r1 := lneS_ok t.2.2.2.2.1 (nmK_le T _ _) ho h1
      have r2 := smc_ok r1.2.2 h2
      have e3 := Sum.inr.inj h
      have e1 : y.1 = D' := congrArg Prod.fst e3
      have e2 : e = p' := congrArg Prod.snd e3
      rw [← e1, ← e2]
      exact ⟨r1.1, by omega, r2.2.1⟩
