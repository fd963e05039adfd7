/-! THE TEXT: the reference's names and numbers -/
/-- the greatest helper as the reference writes it -/
def HG (x : Int32) (h : Nat) : Prop := (h = 0 → x.toInt = -4) ∧ (¬ h = 0 → x.toInt = (h : Int) - 1)
def FrH (I I' : zI) : Prop := (∀ q, q ≠ 93 → I' q = I q) ∧ ∀ j, j < 19 ∨ 24 < j → j ≠ 16 → I' 93 j = I 93 j
def FrW (I I' : zI) : Prop := (∀ q, q ≠ 93 → I' q = I q) ∧ ∀ j, j < 19 ∨ 24 < j → j ≠ 16 → j ≠ 15 → I' 93 j = I 93 j
theorem FrN.h {I I' : zI} (h : FrN I I') : FrH I I' := ⟨h.1, fun j a _ => h.2 j a⟩
theorem FrH.w {I I' : zI} (h : FrH I I') : FrW I I' := ⟨h.1, fun j a b _ => h.2 j a b⟩
theorem FrH.tr {I J K : zI} (h : FrH I J) (k : FrH J K) : FrH I K := ⟨fun q a => (k.1 q a).trans (h.1 q a), fun j a b => (k.2 j a b).trans (h.2 j a b)⟩
theorem FrW.tr {I J K : zI} (h : FrW I J) (k : FrW J K) : FrW I K := ⟨fun q a => (k.1 q a).trans (h.1 q a), fun j a b c => (k.2 j a b c).trans (h.2 j a b c)⟩
theorem TpM.w {I I' : zI} {T : zTp} (h : TpM I T) (f : FrW I I') : TpM I' T := ⟨(f.2 18 (by omega) (by decide) (by decide)).trans h.1, by rw [f.1 104 (by decide)]; exact h.2⟩
theorem RT.pu {I : zI} {T : zTp} {p j : Nat} {x : Int32} (h : RT I T p) (hj : j < 19 ∨ 24 < j) : RT (zpu I 93 j x) T p := by
  unfold RT at h ⊢
  rw [zpu_k _ _ _ (by omega), zpu_k _ _ _ (by omega), zpu_k _ _ _ (by omega), zpu_k _ _ _ (by omega), zpu_k _ _ _ (by omega), zpu_k _ _ _ (by omega)]
  exact h
theorem FT.pu {I : zI} {c s j : Nat} {x : Int32} (h : FT I c s) (hj : j < 19 ∨ 24 < j) : FT (zpu I 93 j x) c s := by
  unfold FT at h ⊢
  rw [zpu_k _ _ _ (by omega), zpu_k _ _ _ (by omega)]
  exact h
def lnM (l : Nat) : Int32 := if l = 9 then -4 else nI l
theorem nm_0 {T : zTp} {s e : Nat} (to : To T) (hse : s ≤ e) (he : e ≤ T.1) : nmB T s e 0 = true ↔ e - s = 5 ∧ (bA T (s + 0)).toInt = 112 ∧ (bA T (s + 1)).toInt = 108 ∧ (bA T (s + 2)).toInt = 97 ∧ (bA T (s + 3)).toInt = 105 ∧ (bA T (s + 4)).toInt = 110 := by
  rw [nmB_i]
  have hb : ∀ j, e - s = 5 → j < 5 → (bA T (s + j)).toInt = T.2 (s + j) := fun j h1 h2 => ((bA_t to (s + j)).1 (by omega)).1
  constructor
  · rintro ⟨h1, h2⟩
    have h3 : e - s = 5 := h1
    refine ⟨h3, ?_, ?_, ?_, ?_, ?_⟩
    · rw [hb 0 h3 (by decide)]; exact congrArg Nat.cast (h2 0 (by decide))
    · rw [hb 1 h3 (by decide)]; exact congrArg Nat.cast (h2 1 (by decide))
    · rw [hb 2 h3 (by decide)]; exact congrArg Nat.cast (h2 2 (by decide))
    · rw [hb 3 h3 (by decide)]; exact congrArg Nat.cast (h2 3 (by decide))
    · rw [hb 4 h3 (by decide)]; exact congrArg Nat.cast (h2 4 (by decide))
  · rintro ⟨h1, x0, x1, x2, x3, x4⟩
    refine ⟨h1, fun j hj => ?_⟩
    have hj2 : j < 5 := hj
    rcases (by omega : j = 0 ∨ j = 1 ∨ j = 2 ∨ j = 3 ∨ j = 4) with rfl | rfl | rfl | rfl | rfl
    · rw [hb 0 h1 (by decide)] at x0; exact Int.ofNat.inj x0
    · rw [hb 1 h1 (by decide)] at x1; exact Int.ofNat.inj x1
    · rw [hb 2 h1 (by decide)] at x2; exact Int.ofNat.inj x2
    · rw [hb 3 h1 (by decide)] at x3; exact Int.ofNat.inj x3
    · rw [hb 4 h1 (by decide)] at x4; exact Int.ofNat.inj x4
theorem nm_1 {T : zTp} {s e : Nat} (to : To T) (hse : s ≤ e) (he : e ≤ T.1) : nmB T s e 1 = true ↔ e - s = 6 ∧ (bA T (s + 0)).toInt = 115 ∧ (bA T (s + 1)).toInt = 117 ∧ (bA T (s + 2)).toInt = 108 ∧ (bA T (s + 3)).toInt = 108 ∧ (bA T (s + 4)).toInt = 101 ∧ (bA T (s + 5)).toInt = 110 := by
  rw [nmB_i]
  have hb : ∀ j, e - s = 6 → j < 6 → (bA T (s + j)).toInt = T.2 (s + j) := fun j h1 h2 => ((bA_t to (s + j)).1 (by omega)).1
  constructor
  · rintro ⟨h1, h2⟩
    have h3 : e - s = 6 := h1
    refine ⟨h3, ?_, ?_, ?_, ?_, ?_, ?_⟩
    · rw [hb 0 h3 (by decide)]; exact congrArg Nat.cast (h2 0 (by decide))
    · rw [hb 1 h3 (by decide)]; exact congrArg Nat.cast (h2 1 (by decide))
    · rw [hb 2 h3 (by decide)]; exact congrArg Nat.cast (h2 2 (by decide))
    · rw [hb 3 h3 (by decide)]; exact congrArg Nat.cast (h2 3 (by decide))
    · rw [hb 4 h3 (by decide)]; exact congrArg Nat.cast (h2 4 (by decide))
    · rw [hb 5 h3 (by decide)]; exact congrArg Nat.cast (h2 5 (by decide))
  · rintro ⟨h1, x0, x1, x2, x3, x4, x5⟩
    refine ⟨h1, fun j hj => ?_⟩
    have hj2 : j < 6 := hj
    rcases (by omega : j = 0 ∨ j = 1 ∨ j = 2 ∨ j = 3 ∨ j = 4 ∨ j = 5) with rfl | rfl | rfl | rfl | rfl | rfl
    · rw [hb 0 h1 (by decide)] at x0; exact Int.ofNat.inj x0
    · rw [hb 1 h1 (by decide)] at x1; exact Int.ofNat.inj x1
    · rw [hb 2 h1 (by decide)] at x2; exact Int.ofNat.inj x2
    · rw [hb 3 h1 (by decide)] at x3; exact Int.ofNat.inj x3
    · rw [hb 4 h1 (by decide)] at x4; exact Int.ofNat.inj x4
    · rw [hb 5 h1 (by decide)] at x5; exact Int.ofNat.inj x5
theorem nm_2 {T : zTp} {s e : Nat} (to : To T) (hse : s ≤ e) (he : e ≤ T.1) : nmB T s e 2 = true ↔ e - s = 3 ∧ (bA T (s + 0)).toInt = 110 ∧ (bA T (s + 1)).toInt = 117 ∧ (bA T (s + 2)).toInt = 110 := by
  rw [nmB_i]
  have hb : ∀ j, e - s = 3 → j < 3 → (bA T (s + j)).toInt = T.2 (s + j) := fun j h1 h2 => ((bA_t to (s + j)).1 (by omega)).1
  constructor
  · rintro ⟨h1, h2⟩
    have h3 : e - s = 3 := h1
    refine ⟨h3, ?_, ?_, ?_⟩
    · rw [hb 0 h3 (by decide)]; exact congrArg Nat.cast (h2 0 (by decide))
    · rw [hb 1 h3 (by decide)]; exact congrArg Nat.cast (h2 1 (by decide))
    · rw [hb 2 h3 (by decide)]; exact congrArg Nat.cast (h2 2 (by decide))
  · rintro ⟨h1, x0, x1, x2⟩
    refine ⟨h1, fun j hj => ?_⟩
    have hj2 : j < 3 := hj
    rcases (by omega : j = 0 ∨ j = 1 ∨ j = 2) with rfl | rfl | rfl
    · rw [hb 0 h1 (by decide)] at x0; exact Int.ofNat.inj x0
    · rw [hb 1 h1 (by decide)] at x1; exact Int.ofNat.inj x1
    · rw [hb 2 h1 (by decide)] at x2; exact Int.ofNat.inj x2
theorem nm_3 {T : zTp} {s e : Nat} (to : To T) (hse : s ≤ e) (he : e ≤ T.1) : nmB T s e 3 = true ↔ e - s = 7 ∧ (bA T (s + 0)).toInt = 98 ∧ (bA T (s + 1)).toInt = 114 ∧ (bA T (s + 2)).toInt = 111 ∧ (bA T (s + 3)).toInt = 116 ∧ (bA T (s + 4)).toInt = 104 ∧ (bA T (s + 5)).toInt = 101 ∧ (bA T (s + 6)).toInt = 114 := by
  rw [nmB_i]
  have hb : ∀ j, e - s = 7 → j < 7 → (bA T (s + j)).toInt = T.2 (s + j) := fun j h1 h2 => ((bA_t to (s + j)).1 (by omega)).1
  constructor
  · rintro ⟨h1, h2⟩
    have h3 : e - s = 7 := h1
    refine ⟨h3, ?_, ?_, ?_, ?_, ?_, ?_, ?_⟩
    · rw [hb 0 h3 (by decide)]; exact congrArg Nat.cast (h2 0 (by decide))
    · rw [hb 1 h3 (by decide)]; exact congrArg Nat.cast (h2 1 (by decide))
    · rw [hb 2 h3 (by decide)]; exact congrArg Nat.cast (h2 2 (by decide))
    · rw [hb 3 h3 (by decide)]; exact congrArg Nat.cast (h2 3 (by decide))
    · rw [hb 4 h3 (by decide)]; exact congrArg Nat.cast (h2 4 (by decide))
    · rw [hb 5 h3 (by decide)]; exact congrArg Nat.cast (h2 5 (by decide))
    · rw [hb 6 h3 (by decide)]; exact congrArg Nat.cast (h2 6 (by decide))
  · rintro ⟨h1, x0, x1, x2, x3, x4, x5, x6⟩
    refine ⟨h1, fun j hj => ?_⟩
    have hj2 : j < 7 := hj
    rcases (by omega : j = 0 ∨ j = 1 ∨ j = 2 ∨ j = 3 ∨ j = 4 ∨ j = 5 ∨ j = 6) with rfl | rfl | rfl | rfl | rfl | rfl | rfl
    · rw [hb 0 h1 (by decide)] at x0; exact Int.ofNat.inj x0
    · rw [hb 1 h1 (by decide)] at x1; exact Int.ofNat.inj x1
    · rw [hb 2 h1 (by decide)] at x2; exact Int.ofNat.inj x2
    · rw [hb 3 h1 (by decide)] at x3; exact Int.ofNat.inj x3
    · rw [hb 4 h1 (by decide)] at x4; exact Int.ofNat.inj x4
    · rw [hb 5 h1 (by decide)] at x5; exact Int.ofNat.inj x5
    · rw [hb 6 h1 (by decide)] at x6; exact Int.ofNat.inj x6
theorem nm_4 {T : zTp} {s e : Nat} (to : To T) (hse : s ≤ e) (he : e ≤ T.1) : nmB T s e 4 = true ↔ e - s = 4 ∧ (bA T (s + 0)).toInt = 104 ∧ (bA T (s + 1)).toInt = 97 ∧ (bA T (s + 2)).toInt = 116 ∧ (bA T (s + 3)).toInt = 101 := by
  rw [nmB_i]
  have hb : ∀ j, e - s = 4 → j < 4 → (bA T (s + j)).toInt = T.2 (s + j) := fun j h1 h2 => ((bA_t to (s + j)).1 (by omega)).1
  constructor
  · rintro ⟨h1, h2⟩
    have h3 : e - s = 4 := h1
    refine ⟨h3, ?_, ?_, ?_, ?_⟩
    · rw [hb 0 h3 (by decide)]; exact congrArg Nat.cast (h2 0 (by decide))
    · rw [hb 1 h3 (by decide)]; exact congrArg Nat.cast (h2 1 (by decide))
    · rw [hb 2 h3 (by decide)]; exact congrArg Nat.cast (h2 2 (by decide))
    · rw [hb 3 h3 (by decide)]; exact congrArg Nat.cast (h2 3 (by decide))
  · rintro ⟨h1, x0, x1, x2, x3⟩
    refine ⟨h1, fun j hj => ?_⟩
    have hj2 : j < 4 := hj
    rcases (by omega : j = 0 ∨ j = 1 ∨ j = 2 ∨ j = 3) with rfl | rfl | rfl | rfl
    · rw [hb 0 h1 (by decide)] at x0; exact Int.ofNat.inj x0
    · rw [hb 1 h1 (by decide)] at x1; exact Int.ofNat.inj x1
    · rw [hb 2 h1 (by decide)] at x2; exact Int.ofNat.inj x2
    · rw [hb 3 h1 (by decide)] at x3; exact Int.ofNat.inj x3
theorem nm_5 {T : zTp} {s e : Nat} (to : To T) (hse : s ≤ e) (he : e ≤ T.1) : nmB T s e 5 = true ↔ e - s = 4 ∧ (bA T (s + 0)).toInt = 98 ∧ (bA T (s + 1)).toInt = 111 ∧ (bA T (s + 2)).toInt = 116 ∧ (bA T (s + 3)).toInt = 104 := by
  rw [nmB_i]
  have hb : ∀ j, e - s = 4 → j < 4 → (bA T (s + j)).toInt = T.2 (s + j) := fun j h1 h2 => ((bA_t to (s + j)).1 (by omega)).1
  constructor
  · rintro ⟨h1, h2⟩
    have h3 : e - s = 4 := h1
    refine ⟨h3, ?_, ?_, ?_, ?_⟩
    · rw [hb 0 h3 (by decide)]; exact congrArg Nat.cast (h2 0 (by decide))
    · rw [hb 1 h3 (by decide)]; exact congrArg Nat.cast (h2 1 (by decide))
    · rw [hb 2 h3 (by decide)]; exact congrArg Nat.cast (h2 2 (by decide))
    · rw [hb 3 h3 (by decide)]; exact congrArg Nat.cast (h2 3 (by decide))
  · rintro ⟨h1, x0, x1, x2, x3⟩
    refine ⟨h1, fun j hj => ?_⟩
    have hj2 : j < 4 := hj
    rcases (by omega : j = 0 ∨ j = 1 ∨ j = 2 ∨ j = 3) with rfl | rfl | rfl | rfl
    · rw [hb 0 h1 (by decide)] at x0; exact Int.ofNat.inj x0
    · rw [hb 1 h1 (by decide)] at x1; exact Int.ofNat.inj x1
    · rw [hb 2 h1 (by decide)] at x2; exact Int.ofNat.inj x2
    · rw [hb 3 h1 (by decide)] at x3; exact Int.ofNat.inj x3
theorem nm_6 {T : zTp} {s e : Nat} (to : To T) (hse : s ≤ e) (he : e ≤ T.1) : nmB T s e 6 = true ↔ e - s = 3 ∧ (bA T (s + 0)).toInt = 112 ∧ (bA T (s + 1)).toInt = 111 ∧ (bA T (s + 2)).toInt = 116 := by
  rw [nmB_i]
  have hb : ∀ j, e - s = 3 → j < 3 → (bA T (s + j)).toInt = T.2 (s + j) := fun j h1 h2 => ((bA_t to (s + j)).1 (by omega)).1
  constructor
  · rintro ⟨h1, h2⟩
    have h3 : e - s = 3 := h1
    refine ⟨h3, ?_, ?_, ?_⟩
    · rw [hb 0 h3 (by decide)]; exact congrArg Nat.cast (h2 0 (by decide))
    · rw [hb 1 h3 (by decide)]; exact congrArg Nat.cast (h2 1 (by decide))
    · rw [hb 2 h3 (by decide)]; exact congrArg Nat.cast (h2 2 (by decide))
  · rintro ⟨h1, x0, x1, x2⟩
    refine ⟨h1, fun j hj => ?_⟩
    have hj2 : j < 3 := hj
    rcases (by omega : j = 0 ∨ j = 1 ∨ j = 2) with rfl | rfl | rfl
    · rw [hb 0 h1 (by decide)] at x0; exact Int.ofNat.inj x0
    · rw [hb 1 h1 (by decide)] at x1; exact Int.ofNat.inj x1
    · rw [hb 2 h1 (by decide)] at x2; exact Int.ofNat.inj x2
theorem nm_7 {T : zTp} {s e : Nat} (to : To T) (hse : s ≤ e) (he : e ≤ T.1) : nmB T s e 7 = true ↔ e - s = 4 ∧ (bA T (s + 0)).toInt = 115 ∧ (bA T (s + 1)).toInt = 108 ∧ (bA T (s + 2)).toInt = 105 ∧ (bA T (s + 3)).toInt = 112 := by
  rw [nmB_i]
  have hb : ∀ j, e - s = 4 → j < 4 → (bA T (s + j)).toInt = T.2 (s + j) := fun j h1 h2 => ((bA_t to (s + j)).1 (by omega)).1
  constructor
  · rintro ⟨h1, h2⟩
    have h3 : e - s = 4 := h1
    refine ⟨h3, ?_, ?_, ?_, ?_⟩
    · rw [hb 0 h3 (by decide)]; exact congrArg Nat.cast (h2 0 (by decide))
    · rw [hb 1 h3 (by decide)]; exact congrArg Nat.cast (h2 1 (by decide))
    · rw [hb 2 h3 (by decide)]; exact congrArg Nat.cast (h2 2 (by decide))
    · rw [hb 3 h3 (by decide)]; exact congrArg Nat.cast (h2 3 (by decide))
  · rintro ⟨h1, x0, x1, x2, x3⟩
    refine ⟨h1, fun j hj => ?_⟩
    have hj2 : j < 4 := hj
    rcases (by omega : j = 0 ∨ j = 1 ∨ j = 2 ∨ j = 3) with rfl | rfl | rfl | rfl
    · rw [hb 0 h1 (by decide)] at x0; exact Int.ofNat.inj x0
    · rw [hb 1 h1 (by decide)] at x1; exact Int.ofNat.inj x1
    · rw [hb 2 h1 (by decide)] at x2; exact Int.ofNat.inj x2
    · rw [hb 3 h1 (by decide)] at x3; exact Int.ofNat.inj x3
theorem nm_8 {T : zTp} {s e : Nat} (to : To T) (hse : s ≤ e) (he : e ≤ T.1) : nmB T s e 8 = true ↔ e - s = 4 ∧ (bA T (s + 0)).toInt = 112 ∧ (bA T (s + 1)).toInt = 108 ∧ (bA T (s + 2)).toInt = 97 ∧ (bA T (s + 3)).toInt = 110 := by
  rw [nmB_i]
  have hb : ∀ j, e - s = 4 → j < 4 → (bA T (s + j)).toInt = T.2 (s + j) := fun j h1 h2 => ((bA_t to (s + j)).1 (by omega)).1
  constructor
  · rintro ⟨h1, h2⟩
    have h3 : e - s = 4 := h1
    refine ⟨h3, ?_, ?_, ?_, ?_⟩
    · rw [hb 0 h3 (by decide)]; exact congrArg Nat.cast (h2 0 (by decide))
    · rw [hb 1 h3 (by decide)]; exact congrArg Nat.cast (h2 1 (by decide))
    · rw [hb 2 h3 (by decide)]; exact congrArg Nat.cast (h2 2 (by decide))
    · rw [hb 3 h3 (by decide)]; exact congrArg Nat.cast (h2 3 (by decide))
  · rintro ⟨h1, x0, x1, x2, x3⟩
    refine ⟨h1, fun j hj => ?_⟩
    have hj2 : j < 4 := hj
    rcases (by omega : j = 0 ∨ j = 1 ∨ j = 2 ∨ j = 3) with rfl | rfl | rfl | rfl
    · rw [hb 0 h1 (by decide)] at x0; exact Int.ofNat.inj x0
    · rw [hb 1 h1 (by decide)] at x1; exact Int.ofNat.inj x1
    · rw [hb 2 h1 (by decide)] at x2; exact Int.ofNat.inj x2
    · rw [hb 3 h1 (by decide)] at x3; exact Int.ofNat.inj x3
section LOOKED
variable {G : zG} {I : zI} {L : zJ} {Q : zP} {T : zTp} {p s e c w h : Nat}
theorem c_isM {n a b c : Nat} (tp : TpM I T) (to : To T) (h20 : I 93 20 = nI s) (h19 : I 93 19 = nI e) (hse : s ≤ e) (he : e ≤ T.1) (hn : n < 1000) (ha : a < 1000) (hb : b < 1000) (hc : c < 1000) (hq : Q (some (.int (zbo (e - s = n ∧ (bA T (s + 0)).toInt = a ∧ (bA T (s + 1)).toInt = b ∧ (bA T (s + 2)).toInt = c)))) I L) : Zm G 139 [.ref 93, .int (nI n), .int (nI a), .int (nI b), .int (nI c)] I L Q := by
  have o1 := to.1
  have e0 : s + 0 = s := rfl
  refine Zm.go [some (.ref _), some (.int _), some (.int _), some (.int _), some (.int _)] vl_139 rfl ?_
  refine Zp.aload_n k_139_0 rfl ?_
  refine Zp.getV k_139_1 rfl (zlt rfl) m_93 h19 ?_
  refine Zp.aload_n k_139_4 rfl ?_
  refine Zp.getV k_139_5 rfl (zlt rfl) m_93 h20 ?_
  refine Zp.isubN k_139_8 (by omega) ?_
  refine Zp.iload_n k_139_9 rfl ?_
  refine Zp.icmp_neN k_139_10 (by omega) (by omega) (fun c_10 => ?_) (fun c_10 => ?_)
  · refine Zp.iconst (nI 0) k_139_58 (by decide) ?_
    refine Zp.iret _ k_139_59 vr_139 rfl ?_
    exact zq0 hq (by omega)
  · refine Zp.aload_n k_139_13 rfl ?_
    refine Zp.aload_n k_139_14 rfl ?_
    refine Zp.getV k_139_15 rfl (zlt rfl) m_93 h20 ?_
    refine Zp.callv1I v_138 k_139_18 m_93 (Nat.le_of_ble_eq_true rfl) (Nat.le_of_ble_eq_true rfl) (c_byteAtM (p := s + 0) tp to (by omega) ⟨_, rfl, ?_⟩)
    refine Zp.iload_n k_139_21 rfl ?_
    refine Zp.icmp_neZ _ _ k_139_22 rfl (nI_toInt (by omega)) (fun c_22 => ?_) (fun c_22 => ?_)
    · refine Zp.iconst (nI 0) k_139_58 (by decide) ?_
      refine Zp.iret _ k_139_59 vr_139 rfl ?_
      exact zq0 hq (by omega)
    · refine Zp.aload_n k_139_25 rfl ?_
      refine Zp.aload_n k_139_26 rfl ?_
      refine Zp.getV k_139_27 rfl (zlt rfl) m_93 h20 ?_
      refine Zp.iconst (nI 1) k_139_30 (by decide) ?_
      refine Zp.iaddN k_139_31 ?_
      refine Zp.callv1I v_138 k_139_32 m_93 (Nat.le_of_ble_eq_true rfl) (Nat.le_of_ble_eq_true rfl) (c_byteAtM tp to (by omega) ⟨_, rfl, ?_⟩)
      refine Zp.iload_n k_139_35 rfl ?_
      refine Zp.icmp_neZ _ _ k_139_36 rfl (nI_toInt (by omega)) (fun c_36 => ?_) (fun c_36 => ?_)
      · refine Zp.iconst (nI 0) k_139_58 (by decide) ?_
        refine Zp.iret _ k_139_59 vr_139 rfl ?_
        exact zq0 hq (by omega)
      · refine Zp.aload_n k_139_39 rfl ?_
        refine Zp.aload_n k_139_40 rfl ?_
        refine Zp.getV k_139_41 rfl (zlt rfl) m_93 h20 ?_
        refine Zp.iconst (nI 2) k_139_44 (by decide) ?_
        refine Zp.iaddN k_139_45 ?_
        refine Zp.callv1I v_138 k_139_46 m_93 (Nat.le_of_ble_eq_true rfl) (Nat.le_of_ble_eq_true rfl) (c_byteAtM tp to (by omega) ⟨_, rfl, ?_⟩)
        refine Zp.iload k_139_49 rfl ?_
        refine Zp.icmp_neZ _ _ k_139_51 rfl (nI_toInt (by omega)) (fun c_51 => ?_) (fun c_51 => ?_)
        · refine Zp.iconst (nI 0) k_139_58 (by decide) ?_
          refine Zp.iret _ k_139_59 vr_139 rfl ?_
          exact zq0 hq (by omega)
        · refine Zp.iconst (nI 1) k_139_54 (by decide) ?_
          refine Zp.goto k_139_55 ?_
          refine Zp.iret _ k_139_59 vr_139 rfl ?_
          exact zq1 hq (by omega)
theorem c_endsM {a b c d : Nat} (tp : TpM I T) (to : To T) (h20 : I 93 20 = nI s) (hs : s ≤ T.1) (ha : a < 1000) (hb : b < 1000) (hc : c < 1000) (hd : d < 1000) (hq : Q (some (.int (zbo ((bA T (s + 3)).toInt = a ∧ (b = 0 ∨ (bA T (s + 4)).toInt = b) ∧ (c = 0 ∨ (bA T (s + 5)).toInt = c) ∧ (d = 0 ∨ (bA T (s + 6)).toInt = d))))) I L) : Zm G 140 [.ref 93, .int (nI a), .int (nI b), .int (nI c), .int (nI d)] I L Q := by
  have o1 := to.1
  have yes : ((bA T (s + 3)).toInt = a ∧ (b = 0 ∨ (bA T (s + 4)).toInt = b) ∧ (c = 0 ∨ (bA T (s + 5)).toInt = c) ∧ (d = 0 ∨ (bA T (s + 6)).toInt = d)) → Zp G 140 71 [some (.ref 93), some (.int (nI a)), some (.int (nI b)), some (.int (nI c)), some (.int (nI d))] [] I L Q := by
    intro z
    refine Zp.iconst (nI 1) k_140_71 (by decide) ?_
    refine Zp.goto k_140_72 ?_
    refine Zp.iret _ k_140_76 vr_140 rfl ?_
    exact zq1 hq z
  have no : ¬ ((bA T (s + 3)).toInt = a ∧ (b = 0 ∨ (bA T (s + 4)).toInt = b) ∧ (c = 0 ∨ (bA T (s + 5)).toInt = c) ∧ (d = 0 ∨ (bA T (s + 6)).toInt = d)) → Zp G 140 75 [some (.ref 93), some (.int (nI a)), some (.int (nI b)), some (.int (nI c)), some (.int (nI d))] [] I L Q := by
    intro z
    refine Zp.iconst (nI 0) k_140_75 (by decide) ?_
    refine Zp.iret _ k_140_76 vr_140 rfl ?_
    exact zq0 hq z
  refine Zm.go [some (.ref _), some (.int _), some (.int _), some (.int _), some (.int _)] vl_140 rfl ?_
  refine Zp.aload_n k_140_0 rfl ?_
  refine Zp.aload_n k_140_1 rfl ?_
  refine Zp.getV k_140_2 rfl (zlt rfl) m_93 h20 ?_
  refine Zp.iconst (nI 3) k_140_5 (by decide) ?_
  refine Zp.iaddN k_140_6 ?_
  refine Zp.callv1I v_138 k_140_7 m_93 (Nat.le_of_ble_eq_true rfl) (Nat.le_of_ble_eq_true rfl) (c_byteAtM tp to (by omega) ⟨_, rfl, ?_⟩)
  refine Zp.iload_n k_140_10 rfl ?_
  refine Zp.icmp_neZ _ _ k_140_11 rfl (nI_toInt (by omega)) (fun c_11 => ?_) (fun c_11 => ?_)
  · exact no (by omega)
  · refine Zp.iload_n k_140_14 rfl ?_
    refine Zp.if_eqN k_140_15 (by omega) (fun c_15 => ?_) (fun c_15 => ?_)
    · refine Zp.iload_n k_140_32 rfl ?_
      refine Zp.if_eqN k_140_33 (by omega) (fun c_33 => ?_) (fun c_33 => ?_)
      · refine Zp.iload k_140_50 rfl ?_
        refine Zp.if_eqN k_140_52 (by omega) (fun c_52 => ?_) (fun c_52 => ?_)
        · exact yes ⟨by omega, by omega, by omega, by omega⟩
        · refine Zp.aload_n k_140_55 rfl ?_
          refine Zp.aload_n k_140_56 rfl ?_
          refine Zp.getV k_140_57 rfl (zlt rfl) m_93 h20 ?_
          refine Zp.bipush (nI 6) k_140_60 (by decide) ?_
          refine Zp.iaddN k_140_62 ?_
          refine Zp.callv1I v_138 k_140_63 m_93 (Nat.le_of_ble_eq_true rfl) (Nat.le_of_ble_eq_true rfl) (c_byteAtM tp to (by omega) ⟨_, rfl, ?_⟩)
          refine Zp.iload k_140_66 rfl ?_
          refine Zp.icmp_neZ _ _ k_140_68 rfl (nI_toInt (by omega)) (fun c_68 => ?_) (fun c_68 => ?_)
          · exact no (by omega)
          · exact yes ⟨by omega, by omega, by omega, by omega⟩
      · refine Zp.aload_n k_140_36 rfl ?_
        refine Zp.aload_n k_140_37 rfl ?_
        refine Zp.getV k_140_38 rfl (zlt rfl) m_93 h20 ?_
        refine Zp.iconst (nI 5) k_140_41 (by decide) ?_
        refine Zp.iaddN k_140_42 ?_
        refine Zp.callv1I v_138 k_140_43 m_93 (Nat.le_of_ble_eq_true rfl) (Nat.le_of_ble_eq_true rfl) (c_byteAtM tp to (by omega) ⟨_, rfl, ?_⟩)
        refine Zp.iload_n k_140_46 rfl ?_
        refine Zp.icmp_neZ _ _ k_140_47 rfl (nI_toInt (by omega)) (fun c_47 => ?_) (fun c_47 => ?_)
        · exact no (by omega)
        · refine Zp.iload k_140_50 rfl ?_
          refine Zp.if_eqN k_140_52 (by omega) (fun c_52 => ?_) (fun c_52 => ?_)
          · exact yes ⟨by omega, by omega, by omega, by omega⟩
          · refine Zp.aload_n k_140_55 rfl ?_
            refine Zp.aload_n k_140_56 rfl ?_
            refine Zp.getV k_140_57 rfl (zlt rfl) m_93 h20 ?_
            refine Zp.bipush (nI 6) k_140_60 (by decide) ?_
            refine Zp.iaddN k_140_62 ?_
            refine Zp.callv1I v_138 k_140_63 m_93 (Nat.le_of_ble_eq_true rfl) (Nat.le_of_ble_eq_true rfl) (c_byteAtM tp to (by omega) ⟨_, rfl, ?_⟩)
            refine Zp.iload k_140_66 rfl ?_
            refine Zp.icmp_neZ _ _ k_140_68 rfl (nI_toInt (by omega)) (fun c_68 => ?_) (fun c_68 => ?_)
            · exact no (by omega)
            · exact yes ⟨by omega, by omega, by omega, by omega⟩
    · refine Zp.aload_n k_140_18 rfl ?_
      refine Zp.aload_n k_140_19 rfl ?_
      refine Zp.getV k_140_20 rfl (zlt rfl) m_93 h20 ?_
      refine Zp.iconst (nI 4) k_140_23 (by decide) ?_
      refine Zp.iaddN k_140_24 ?_
      refine Zp.callv1I v_138 k_140_25 m_93 (Nat.le_of_ble_eq_true rfl) (Nat.le_of_ble_eq_true rfl) (c_byteAtM tp to (by omega) ⟨_, rfl, ?_⟩)
      refine Zp.iload_n k_140_28 rfl ?_
      refine Zp.icmp_neZ _ _ k_140_29 rfl (nI_toInt (by omega)) (fun c_29 => ?_) (fun c_29 => ?_)
      · exact no (by omega)
      · refine Zp.iload_n k_140_32 rfl ?_
        refine Zp.if_eqN k_140_33 (by omega) (fun c_33 => ?_) (fun c_33 => ?_)
        · refine Zp.iload k_140_50 rfl ?_
          refine Zp.if_eqN k_140_52 (by omega) (fun c_52 => ?_) (fun c_52 => ?_)
          · exact yes ⟨by omega, by omega, by omega, by omega⟩
          · refine Zp.aload_n k_140_55 rfl ?_
            refine Zp.aload_n k_140_56 rfl ?_
            refine Zp.getV k_140_57 rfl (zlt rfl) m_93 h20 ?_
            refine Zp.bipush (nI 6) k_140_60 (by decide) ?_
            refine Zp.iaddN k_140_62 ?_
            refine Zp.callv1I v_138 k_140_63 m_93 (Nat.le_of_ble_eq_true rfl) (Nat.le_of_ble_eq_true rfl) (c_byteAtM tp to (by omega) ⟨_, rfl, ?_⟩)
            refine Zp.iload k_140_66 rfl ?_
            refine Zp.icmp_neZ _ _ k_140_68 rfl (nI_toInt (by omega)) (fun c_68 => ?_) (fun c_68 => ?_)
            · exact no (by omega)
            · exact yes ⟨by omega, by omega, by omega, by omega⟩
        · refine Zp.aload_n k_140_36 rfl ?_
          refine Zp.aload_n k_140_37 rfl ?_
          refine Zp.getV k_140_38 rfl (zlt rfl) m_93 h20 ?_
          refine Zp.iconst (nI 5) k_140_41 (by decide) ?_
          refine Zp.iaddN k_140_42 ?_
          refine Zp.callv1I v_138 k_140_43 m_93 (Nat.le_of_ble_eq_true rfl) (Nat.le_of_ble_eq_true rfl) (c_byteAtM tp to (by omega) ⟨_, rfl, ?_⟩)
          refine Zp.iload_n k_140_46 rfl ?_
          refine Zp.icmp_neZ _ _ k_140_47 rfl (nI_toInt (by omega)) (fun c_47 => ?_) (fun c_47 => ?_)
          · exact no (by omega)
          · refine Zp.iload k_140_50 rfl ?_
            refine Zp.if_eqN k_140_52 (by omega) (fun c_52 => ?_) (fun c_52 => ?_)
            · exact yes ⟨by omega, by omega, by omega, by omega⟩
            · refine Zp.aload_n k_140_55 rfl ?_
              refine Zp.aload_n k_140_56 rfl ?_
              refine Zp.getV k_140_57 rfl (zlt rfl) m_93 h20 ?_
              refine Zp.bipush (nI 6) k_140_60 (by decide) ?_
              refine Zp.iaddN k_140_62 ?_
              refine Zp.callv1I v_138 k_140_63 m_93 (Nat.le_of_ble_eq_true rfl) (Nat.le_of_ble_eq_true rfl) (c_byteAtM tp to (by omega) ⟨_, rfl, ?_⟩)
              refine Zp.iload k_140_66 rfl ?_
              refine Zp.icmp_neZ _ _ k_140_68 rfl (nI_toInt (by omega)) (fun c_68 => ?_) (fun c_68 => ?_)
              · exact no (by omega)
              · exact yes ⟨by omega, by omega, by omega, by omega⟩
theorem c_lineNowM (tp : TpM I T) (to : To T) (h20 : I 93 20 = nI s) (h19 : I 93 19 = nI e) (hse : s ≤ e) (he : e ≤ T.1) (hq : Q (some (.int (lnM (nmK T s e)))) I L) : Zm G 141 [.ref 93] I L Q := by
  have o1 := to.1
  have m0 := nm_0 (T := T) (s := s) (e := e) to hse he
  have m1 := nm_1 (T := T) (s := s) (e := e) to hse he
  have m2 := nm_2 (T := T) (s := s) (e := e) to hse he
  have m3 := nm_3 (T := T) (s := s) (e := e) to hse he
  have m4 := nm_4 (T := T) (s := s) (e := e) to hse he
  have m5 := nm_5 (T := T) (s := s) (e := e) to hse he
  have m6 := nm_6 (T := T) (s := s) (e := e) to hse he
  have m7 := nm_7 (T := T) (s := s) (e := e) to hse he
  have m8 := nm_8 (T := T) (s := s) (e := e) to hse he
  have at9 : ¬ nmB T s e 0 = true → ¬ nmB T s e 1 = true → ¬ nmB T s e 2 = true → ¬ nmB T s e 3 = true → ¬ nmB T s e 4 = true → ¬ nmB T s e 5 = true → ¬ nmB T s e 6 = true → ¬ nmB T s e 7 = true → ¬ nmB T s e 8 = true → Zp G 141 243 [some (.ref 93)] [] I L Q := by
    intro n0 n1 n2 n3 n4 n5 n6 n7 n8
    refine Zp.bipush (-4) k_141_243 (by decide) ?_
    refine Zp.iret _ k_141_245 vr_141 rfl ?_
    have e9 : nmK T s e = 9 := by unfold nmK; rw [if_neg n0, if_neg n1, if_neg n2, if_neg n3, if_neg n4, if_neg n5, if_neg n6, if_neg n7, if_neg n8]
    rw [e9] at hq
    exact hq
  have at8 : ¬ nmB T s e 0 = true → ¬ nmB T s e 1 = true → ¬ nmB T s e 2 = true → ¬ nmB T s e 3 = true → ¬ nmB T s e 4 = true → ¬ nmB T s e 5 = true → ¬ nmB T s e 6 = true → ¬ nmB T s e 7 = true → Zp G 141 212 [some (.ref 93)] [] I L Q := by
    intro n0 n1 n2 n3 n4 n5 n6 n7
    refine Zp.aload_n k_141_212 rfl ?_
    refine Zp.iconst (nI 4) k_141_213 (by decide) ?_
    refine Zp.bipush (nI 112) k_141_214 (by decide) ?_
    refine Zp.bipush (nI 108) k_141_216 (by decide) ?_
    refine Zp.bipush (nI 97) k_141_218 (by decide) ?_
    refine Zp.callv4I v_139 k_141_220 m_93 (Nat.le_of_ble_eq_true rfl) (Nat.le_of_ble_eq_true rfl) (c_isM tp to h20 h19 hse he (by decide) (by decide) (by decide) (by decide) ⟨_, rfl, ?_⟩)
    refine Zp.if_eqB k_141_223 (fun c_223 => ?_) (fun c_223 => ?_)
    · exact at9 n0 n1 n2 n3 n4 n5 n6 n7 (fun z => by have := m8.mp z; omega)
    · refine Zp.aload_n k_141_226 rfl ?_
      refine Zp.bipush (nI 110) k_141_227 (by decide) ?_
      refine Zp.iconst (nI 0) k_141_229 (by decide) ?_
      refine Zp.iconst (nI 0) k_141_230 (by decide) ?_
      refine Zp.iconst (nI 0) k_141_231 (by decide) ?_
      refine Zp.callv4I v_140 k_141_232 m_93 (Nat.le_of_ble_eq_true rfl) (Nat.le_of_ble_eq_true rfl) (c_endsM tp to h20 (by omega) (by decide) (by decide) (by decide) (by decide) ⟨_, rfl, ?_⟩)
      refine Zp.if_eqB k_141_235 (fun c_235 => ?_) (fun c_235 => ?_)
      · exact at9 n0 n1 n2 n3 n4 n5 n6 n7 (fun z => by have := m8.mp z; omega)
      · refine Zp.bipush (nI 8) k_141_238 (by decide) ?_
        refine Zp.goto k_141_240 ?_
        refine Zp.iret _ k_141_245 vr_141 rfl ?_
        have e9 : nmK T s e = 8 := by unfold nmK; rw [if_neg n0, if_neg n1, if_neg n2, if_neg n3, if_neg n4, if_neg n5, if_neg n6, if_neg n7, if_pos (m8.mpr (by omega))]
        rw [e9] at hq
        exact hq
  have at7 : ¬ nmB T s e 0 = true → ¬ nmB T s e 1 = true → ¬ nmB T s e 2 = true → ¬ nmB T s e 3 = true → ¬ nmB T s e 4 = true → ¬ nmB T s e 5 = true → ¬ nmB T s e 6 = true → Zp G 141 181 [some (.ref 93)] [] I L Q := by
    intro n0 n1 n2 n3 n4 n5 n6
    refine Zp.aload_n k_141_181 rfl ?_
    refine Zp.iconst (nI 4) k_141_182 (by decide) ?_
    refine Zp.bipush (nI 115) k_141_183 (by decide) ?_
    refine Zp.bipush (nI 108) k_141_185 (by decide) ?_
    refine Zp.bipush (nI 105) k_141_187 (by decide) ?_
    refine Zp.callv4I v_139 k_141_189 m_93 (Nat.le_of_ble_eq_true rfl) (Nat.le_of_ble_eq_true rfl) (c_isM tp to h20 h19 hse he (by decide) (by decide) (by decide) (by decide) ⟨_, rfl, ?_⟩)
    refine Zp.if_eqB k_141_192 (fun c_192 => ?_) (fun c_192 => ?_)
    · exact at8 n0 n1 n2 n3 n4 n5 n6 (fun z => by have := m7.mp z; omega)
    · refine Zp.aload_n k_141_195 rfl ?_
      refine Zp.bipush (nI 112) k_141_196 (by decide) ?_
      refine Zp.iconst (nI 0) k_141_198 (by decide) ?_
      refine Zp.iconst (nI 0) k_141_199 (by decide) ?_
      refine Zp.iconst (nI 0) k_141_200 (by decide) ?_
      refine Zp.callv4I v_140 k_141_201 m_93 (Nat.le_of_ble_eq_true rfl) (Nat.le_of_ble_eq_true rfl) (c_endsM tp to h20 (by omega) (by decide) (by decide) (by decide) (by decide) ⟨_, rfl, ?_⟩)
      refine Zp.if_eqB k_141_204 (fun c_204 => ?_) (fun c_204 => ?_)
      · exact at8 n0 n1 n2 n3 n4 n5 n6 (fun z => by have := m7.mp z; omega)
      · refine Zp.bipush (nI 7) k_141_207 (by decide) ?_
        refine Zp.goto k_141_209 ?_
        refine Zp.iret _ k_141_245 vr_141 rfl ?_
        have e9 : nmK T s e = 7 := by unfold nmK; rw [if_neg n0, if_neg n1, if_neg n2, if_neg n3, if_neg n4, if_neg n5, if_neg n6, if_pos (m7.mpr (by omega))]
        rw [e9] at hq
        exact hq
  have at6 : ¬ nmB T s e 0 = true → ¬ nmB T s e 1 = true → ¬ nmB T s e 2 = true → ¬ nmB T s e 3 = true → ¬ nmB T s e 4 = true → ¬ nmB T s e 5 = true → Zp G 141 164 [some (.ref 93)] [] I L Q := by
    intro n0 n1 n2 n3 n4 n5
    refine Zp.aload_n k_141_164 rfl ?_
    refine Zp.iconst (nI 3) k_141_165 (by decide) ?_
    refine Zp.bipush (nI 112) k_141_166 (by decide) ?_
    refine Zp.bipush (nI 111) k_141_168 (by decide) ?_
    refine Zp.bipush (nI 116) k_141_170 (by decide) ?_
    refine Zp.callv4I v_139 k_141_172 m_93 (Nat.le_of_ble_eq_true rfl) (Nat.le_of_ble_eq_true rfl) (c_isM tp to h20 h19 hse he (by decide) (by decide) (by decide) (by decide) ⟨_, rfl, ?_⟩)
    refine Zp.if_eqB k_141_175 (fun c_175 => ?_) (fun c_175 => ?_)
    · exact at7 n0 n1 n2 n3 n4 n5 (fun z => by have := m6.mp z; omega)
    · refine Zp.bipush (nI 6) k_141_178 (by decide) ?_
      refine Zp.iret _ k_141_180 vr_141 rfl ?_
      have e9 : nmK T s e = 6 := by unfold nmK; rw [if_neg n0, if_neg n1, if_neg n2, if_neg n3, if_neg n4, if_neg n5, if_pos (m6.mpr (by omega))]
      rw [e9] at hq
      exact hq
  have at5 : ¬ nmB T s e 0 = true → ¬ nmB T s e 1 = true → ¬ nmB T s e 2 = true → ¬ nmB T s e 3 = true → ¬ nmB T s e 4 = true → Zp G 141 136 [some (.ref 93)] [] I L Q := by
    intro n0 n1 n2 n3 n4
    refine Zp.aload_n k_141_136 rfl ?_
    refine Zp.iconst (nI 4) k_141_137 (by decide) ?_
    refine Zp.bipush (nI 98) k_141_138 (by decide) ?_
    refine Zp.bipush (nI 111) k_141_140 (by decide) ?_
    refine Zp.bipush (nI 116) k_141_142 (by decide) ?_
    refine Zp.callv4I v_139 k_141_144 m_93 (Nat.le_of_ble_eq_true rfl) (Nat.le_of_ble_eq_true rfl) (c_isM tp to h20 h19 hse he (by decide) (by decide) (by decide) (by decide) ⟨_, rfl, ?_⟩)
    refine Zp.if_eqB k_141_147 (fun c_147 => ?_) (fun c_147 => ?_)
    · exact at6 n0 n1 n2 n3 n4 (fun z => by have := m5.mp z; omega)
    · refine Zp.aload_n k_141_150 rfl ?_
      refine Zp.bipush (nI 104) k_141_151 (by decide) ?_
      refine Zp.iconst (nI 0) k_141_153 (by decide) ?_
      refine Zp.iconst (nI 0) k_141_154 (by decide) ?_
      refine Zp.iconst (nI 0) k_141_155 (by decide) ?_
      refine Zp.callv4I v_140 k_141_156 m_93 (Nat.le_of_ble_eq_true rfl) (Nat.le_of_ble_eq_true rfl) (c_endsM tp to h20 (by omega) (by decide) (by decide) (by decide) (by decide) ⟨_, rfl, ?_⟩)
      refine Zp.if_eqB k_141_159 (fun c_159 => ?_) (fun c_159 => ?_)
      · exact at6 n0 n1 n2 n3 n4 (fun z => by have := m5.mp z; omega)
      · refine Zp.iconst (nI 5) k_141_162 (by decide) ?_
        refine Zp.iret _ k_141_163 vr_141 rfl ?_
        have e9 : nmK T s e = 5 := by unfold nmK; rw [if_neg n0, if_neg n1, if_neg n2, if_neg n3, if_neg n4, if_pos (m5.mpr (by omega))]
        rw [e9] at hq
        exact hq
  have at4 : ¬ nmB T s e 0 = true → ¬ nmB T s e 1 = true → ¬ nmB T s e 2 = true → ¬ nmB T s e 3 = true → Zp G 141 108 [some (.ref 93)] [] I L Q := by
    intro n0 n1 n2 n3
    refine Zp.aload_n k_141_108 rfl ?_
    refine Zp.iconst (nI 4) k_141_109 (by decide) ?_
    refine Zp.bipush (nI 104) k_141_110 (by decide) ?_
    refine Zp.bipush (nI 97) k_141_112 (by decide) ?_
    refine Zp.bipush (nI 116) k_141_114 (by decide) ?_
    refine Zp.callv4I v_139 k_141_116 m_93 (Nat.le_of_ble_eq_true rfl) (Nat.le_of_ble_eq_true rfl) (c_isM tp to h20 h19 hse he (by decide) (by decide) (by decide) (by decide) ⟨_, rfl, ?_⟩)
    refine Zp.if_eqB k_141_119 (fun c_119 => ?_) (fun c_119 => ?_)
    · exact at5 n0 n1 n2 n3 (fun z => by have := m4.mp z; omega)
    · refine Zp.aload_n k_141_122 rfl ?_
      refine Zp.bipush (nI 101) k_141_123 (by decide) ?_
      refine Zp.iconst (nI 0) k_141_125 (by decide) ?_
      refine Zp.iconst (nI 0) k_141_126 (by decide) ?_
      refine Zp.iconst (nI 0) k_141_127 (by decide) ?_
      refine Zp.callv4I v_140 k_141_128 m_93 (Nat.le_of_ble_eq_true rfl) (Nat.le_of_ble_eq_true rfl) (c_endsM tp to h20 (by omega) (by decide) (by decide) (by decide) (by decide) ⟨_, rfl, ?_⟩)
      refine Zp.if_eqB k_141_131 (fun c_131 => ?_) (fun c_131 => ?_)
      · exact at5 n0 n1 n2 n3 (fun z => by have := m4.mp z; omega)
      · refine Zp.iconst (nI 4) k_141_134 (by decide) ?_
        refine Zp.iret _ k_141_135 vr_141 rfl ?_
        have e9 : nmK T s e = 4 := by unfold nmK; rw [if_neg n0, if_neg n1, if_neg n2, if_neg n3, if_pos (m4.mpr (by omega))]
        rw [e9] at hq
        exact hq
  have at3 : ¬ nmB T s e 0 = true → ¬ nmB T s e 1 = true → ¬ nmB T s e 2 = true → Zp G 141 76 [some (.ref 93)] [] I L Q := by
    intro n0 n1 n2
    refine Zp.aload_n k_141_76 rfl ?_
    refine Zp.bipush (nI 7) k_141_77 (by decide) ?_
    refine Zp.bipush (nI 98) k_141_79 (by decide) ?_
    refine Zp.bipush (nI 114) k_141_81 (by decide) ?_
    refine Zp.bipush (nI 111) k_141_83 (by decide) ?_
    refine Zp.callv4I v_139 k_141_85 m_93 (Nat.le_of_ble_eq_true rfl) (Nat.le_of_ble_eq_true rfl) (c_isM tp to h20 h19 hse he (by decide) (by decide) (by decide) (by decide) ⟨_, rfl, ?_⟩)
    refine Zp.if_eqB k_141_88 (fun c_88 => ?_) (fun c_88 => ?_)
    · exact at4 n0 n1 n2 (fun z => by have := m3.mp z; omega)
    · refine Zp.aload_n k_141_91 rfl ?_
      refine Zp.bipush (nI 116) k_141_92 (by decide) ?_
      refine Zp.bipush (nI 104) k_141_94 (by decide) ?_
      refine Zp.bipush (nI 101) k_141_96 (by decide) ?_
      refine Zp.bipush (nI 114) k_141_98 (by decide) ?_
      refine Zp.callv4I v_140 k_141_100 m_93 (Nat.le_of_ble_eq_true rfl) (Nat.le_of_ble_eq_true rfl) (c_endsM tp to h20 (by omega) (by decide) (by decide) (by decide) (by decide) ⟨_, rfl, ?_⟩)
      refine Zp.if_eqB k_141_103 (fun c_103 => ?_) (fun c_103 => ?_)
      · exact at4 n0 n1 n2 (fun z => by have := m3.mp z; omega)
      · refine Zp.iconst (nI 3) k_141_106 (by decide) ?_
        refine Zp.iret _ k_141_107 vr_141 rfl ?_
        have e9 : nmK T s e = 3 := by unfold nmK; rw [if_neg n0, if_neg n1, if_neg n2, if_pos (m3.mpr (by omega))]
        rw [e9] at hq
        exact hq
  have at2 : ¬ nmB T s e 0 = true → ¬ nmB T s e 1 = true → Zp G 141 60 [some (.ref 93)] [] I L Q := by
    intro n0 n1
    refine Zp.aload_n k_141_60 rfl ?_
    refine Zp.iconst (nI 3) k_141_61 (by decide) ?_
    refine Zp.bipush (nI 110) k_141_62 (by decide) ?_
    refine Zp.bipush (nI 117) k_141_64 (by decide) ?_
    refine Zp.bipush (nI 110) k_141_66 (by decide) ?_
    refine Zp.callv4I v_139 k_141_68 m_93 (Nat.le_of_ble_eq_true rfl) (Nat.le_of_ble_eq_true rfl) (c_isM tp to h20 h19 hse he (by decide) (by decide) (by decide) (by decide) ⟨_, rfl, ?_⟩)
    refine Zp.if_eqB k_141_71 (fun c_71 => ?_) (fun c_71 => ?_)
    · exact at3 n0 n1 (fun z => by have := m2.mp z; omega)
    · refine Zp.iconst (nI 2) k_141_74 (by decide) ?_
      refine Zp.iret _ k_141_75 vr_141 rfl ?_
      have e9 : nmK T s e = 2 := by unfold nmK; rw [if_neg n0, if_neg n1, if_pos (m2.mpr (by omega))]
      rw [e9] at hq
      exact hq
  have at1 : ¬ nmB T s e 0 = true → Zp G 141 29 [some (.ref 93)] [] I L Q := by
    intro n0
    refine Zp.aload_n k_141_29 rfl ?_
    refine Zp.bipush (nI 6) k_141_30 (by decide) ?_
    refine Zp.bipush (nI 115) k_141_32 (by decide) ?_
    refine Zp.bipush (nI 117) k_141_34 (by decide) ?_
    refine Zp.bipush (nI 108) k_141_36 (by decide) ?_
    refine Zp.callv4I v_139 k_141_38 m_93 (Nat.le_of_ble_eq_true rfl) (Nat.le_of_ble_eq_true rfl) (c_isM tp to h20 h19 hse he (by decide) (by decide) (by decide) (by decide) ⟨_, rfl, ?_⟩)
    refine Zp.if_eqB k_141_41 (fun c_41 => ?_) (fun c_41 => ?_)
    · exact at2 n0 (fun z => by have := m1.mp z; omega)
    · refine Zp.aload_n k_141_44 rfl ?_
      refine Zp.bipush (nI 108) k_141_45 (by decide) ?_
      refine Zp.bipush (nI 101) k_141_47 (by decide) ?_
      refine Zp.bipush (nI 110) k_141_49 (by decide) ?_
      refine Zp.iconst (nI 0) k_141_51 (by decide) ?_
      refine Zp.callv4I v_140 k_141_52 m_93 (Nat.le_of_ble_eq_true rfl) (Nat.le_of_ble_eq_true rfl) (c_endsM tp to h20 (by omega) (by decide) (by decide) (by decide) (by decide) ⟨_, rfl, ?_⟩)
      refine Zp.if_eqB k_141_55 (fun c_55 => ?_) (fun c_55 => ?_)
      · exact at2 n0 (fun z => by have := m1.mp z; omega)
      · refine Zp.iconst (nI 1) k_141_58 (by decide) ?_
        refine Zp.iret _ k_141_59 vr_141 rfl ?_
        have e9 : nmK T s e = 1 := by unfold nmK; rw [if_neg n0, if_pos (m1.mpr (by omega))]
        rw [e9] at hq
        exact hq
  refine Zm.go [some (.ref _)] vl_141 rfl ?_
  refine Zp.aload_n k_141_0 rfl ?_
  refine Zp.iconst (nI 5) k_141_1 (by decide) ?_
  refine Zp.bipush (nI 112) k_141_2 (by decide) ?_
  refine Zp.bipush (nI 108) k_141_4 (by decide) ?_
  refine Zp.bipush (nI 97) k_141_6 (by decide) ?_
  refine Zp.callv4I v_139 k_141_8 m_93 (Nat.le_of_ble_eq_true rfl) (Nat.le_of_ble_eq_true rfl) (c_isM tp to h20 h19 hse he (by decide) (by decide) (by decide) (by decide) ⟨_, rfl, ?_⟩)
  refine Zp.if_eqB k_141_11 (fun c_11 => ?_) (fun c_11 => ?_)
  · exact at1 (fun z => by have := m0.mp z; omega)
  · refine Zp.aload_n k_141_14 rfl ?_
    refine Zp.bipush (nI 105) k_141_15 (by decide) ?_
    refine Zp.bipush (nI 110) k_141_17 (by decide) ?_
    refine Zp.iconst (nI 0) k_141_19 (by decide) ?_
    refine Zp.iconst (nI 0) k_141_20 (by decide) ?_
    refine Zp.callv4I v_140 k_141_21 m_93 (Nat.le_of_ble_eq_true rfl) (Nat.le_of_ble_eq_true rfl) (c_endsM tp to h20 (by omega) (by decide) (by decide) (by decide) (by decide) ⟨_, rfl, ?_⟩)
    refine Zp.if_eqB k_141_24 (fun c_24 => ?_) (fun c_24 => ?_)
    · exact at1 (fun z => by have := m0.mp z; omega)
    · refine Zp.iconst (nI 0) k_141_27 (by decide) ?_
      refine Zp.iret _ k_141_28 vr_141 rfl ?_
      have e9 : nmK T s e = 0 := by unfold nmK; rw [if_pos (m0.mpr (by omega))]
      rw [e9] at hq
      exact hq
theorem c_lookedF {lo hi : Nat} (ft : FT I c s) (hq : Q (some (.int (nI 0))) I L) : Zm G 143 [.ref 93, .int (nI lo), .int (nI hi)] I L Q := by
  obtain ⟨f1, f2, f3, f4⟩ := ft
  refine Zm.go [some (.ref _), some (.int _), some (.int _)] vl_143 rfl ?_
  refine Zp.aload_n k_143_0 rfl ?_
  refine Zp.getV k_143_1 rfl (zlt rfl) m_93 f1 ?_
  refine Zp.if_neN k_143_4 (by omega) (fun c_4 => ?_) (fun c_4 => absurd c_4 (by omega))
  refine Zp.aload_n k_143_25 rfl ?_
  refine Zp.getV k_143_26 rfl (zlt rfl) m_93 f1 ?_
  refine Zp.if_neN k_143_29 (by omega) (fun c_29 => ?_) (fun c_29 => absurd c_29 (by omega))
  refine Zp.aload_n k_143_49 rfl ?_
  refine Zp.getV k_143_50 rfl (zlt rfl) m_93 f1 ?_
  refine Zp.if_neN k_143_53 (by omega) (fun c_53 => ?_) (fun c_53 => absurd c_53 (by omega))
  refine Zp.iconst (nI 0) k_143_63 (by decide) ?_
  refine Zp.iret _ k_143_64 vr_143 rfl ?_
  exact hq
theorem c_lookedM {lo hi : Nat} (rt : RT I T p) (to : To T) (hp : p ≤ T.1) (hlo : lo < 200) (hhi : hi < 200)
    (hbad : ∀ c s' I', rdN T lo hi p = .inl (c, s') → s' = (tok T p).2.1 → FT I' c s' → FrN I I' → Q (some (.int (nI 0))) I' L)
    (hok : ∀ v e, rdN T lo hi p = .inr (v, e) → Q (some (.int (nI v))) I L) : Zm G 143 [.ref 93, .int (nI lo), .int (nI hi)] I L Q := by
  have t := tok_ok T hp
  obtain ⟨r20, r4, rn4⟩ := id rt
  by_cases k4 : (tok T p).1 = 4
  · obtain ⟨g1, g2⟩ := r4 k4
    exact c_lookedF ⟨g1, g2, by decide, by decide⟩ (hbad 1 _ I (if_pos k4) rfl ⟨g1, g2, by decide, by decide⟩ (FrN.rf I))
  · obtain ⟨g1, g2, g3, g4⟩ := rn4 k4
    by_cases k1 : (tok T p).1 = 1
    · have g5 := g4 k1
      obtain ⟨d1, d2⟩ := tok1_dg (T := T) (p := p) k1
      have dv := (nv_lt to (s := (tok T p).2.1) ((tok T p).2.2 - (tok T p).2.1) (by omega) d1).1
      have hsr : srt (tok T p).1 = 2 := by rw [k1]; rfl
      rw [hsr] at g3
      have hrd : rdN T lo hi p = if nv T (tok T p).2.1 ((tok T p).2.2 - (tok T p).2.1) < lo ∨ hi < nv T (tok T p).2.1 ((tok T p).2.2 - (tok T p).2.1) then .inl (3, (tok T p).2.1) else .inr (nv T (tok T p).2.1 ((tok T p).2.2 - (tok T p).2.1), (tok T p).2.2) := by
        unfold rdN
        rw [if_neg k4, if_neg (fun z => z k1)]
      have second : Zp G 143 25 [some (.ref 93), some (.int (nI lo)), some (.int (nI hi))] [] I L Q := by
        have fin : ∀ (g : Prop) [Decidable g], (g ↔ lo ≤ nv T (tok T p).2.1 ((tok T p).2.2 - (tok T p).2.1) ∧ nv T (tok T p).2.1 ((tok T p).2.2 - (tok T p).2.1) ≤ hi) → Zp G 143 45 [some (.ref 93), some (.int (nI lo)), some (.int (nI hi))] [.int (zbo g), .ref 93] I L Q := by
          intro g _ hg
          by_cases hgg : g
          · rw [zbo_t hgg, show (1 : Int32) = nI 1 from rfl]
            rw [if_neg (by have := hg.mp hgg; omega)] at hrd
            refine Zp.iconst (nI 3) k_143_45 (by decide) ?_
            refine Zp.callv2V v_137 k_143_46 m_93 (Nat.le_of_ble_eq_true rfl) (Nat.le_of_ble_eq_true rfl) (c_needsM g1 (by decide) (by decide) r20 (fun z => ⟨rfl, ?_⟩) (fun z => absurd z (by decide)))
            refine Zp.aload_n k_143_49 rfl ?_
            refine Zp.getV k_143_50 rfl (zlt rfl) m_93 g1 ?_
            refine Zp.if_neN k_143_53 (by omega) (fun c_53 => absurd c_53 (by omega)) (fun c_53 => ?_)
            refine Zp.aload_n k_143_56 rfl ?_
            refine Zp.getV k_143_57 rfl (zlt rfl) m_93 g5 ?_
            refine Zp.goto k_143_60 ?_
            refine Zp.iret _ k_143_64 vr_143 rfl ?_
            exact hok _ _ hrd
          · rw [zbo_f hgg, show (0 : Int32) = nI 0 from rfl]
            rw [if_pos (by have := (not_congr hg).mp hgg; omega)] at hrd
            refine Zp.iconst (nI 3) k_143_45 (by decide) ?_
            refine Zp.callv2V v_137 k_143_46 m_93 (Nat.le_of_ble_eq_true rfl) (Nat.le_of_ble_eq_true rfl) (c_needsM g1 (by decide) (by decide) r20 (fun z => absurd z (by decide)) (fun z z2 => ⟨rfl, ?_⟩))
            refine Zp.aload_n k_143_49 rfl ?_
            refine Zp.getV k_143_50 rfl (zlt rfl) m_93 ((zpu_k _ 93 _ (by decide)).trans (zpu_s _ _ _ _)) ?_
            refine Zp.if_neN k_143_53 (by omega) (fun c_53 => ?_) (fun c_53 => absurd c_53 (by omega))
            refine Zp.iconst (nI 0) k_143_63 (by decide) ?_
            refine Zp.iret _ k_143_64 vr_143 rfl ?_
            exact hbad 3 _ _ hrd rfl ⟨by rw [zpu_k _ _ _ (by decide), zpu_s], zpu_s _ _ _ _, by decide, by decide⟩ (((FrN.rf I).pu _ (by decide)).pu _ (by decide))
        refine Zp.aload_n k_143_25 rfl ?_
        refine Zp.getV k_143_26 rfl (zlt rfl) m_93 g1 ?_
        refine Zp.if_neN k_143_29 (by omega) (fun c_29 => absurd c_29 (by omega)) (fun c_29 => ?_)
        refine Zp.aload_n k_143_32 rfl ?_
        refine Zp.aload_n k_143_33 rfl ?_
        refine Zp.getV k_143_34 rfl (zlt rfl) m_93 g5 ?_
        refine Zp.i2l k_143_37 ?_
        refine Zp.iload_n k_143_38 rfl ?_
        refine Zp.i2l k_143_39 ?_
        refine Zp.iload_n k_143_40 rfl ?_
        refine Zp.i2l k_143_41 ?_
        refine Zp.calls3I vs_131 k_143_42 (Nat.le_of_ble_eq_true rfl) (Nat.le_of_ble_eq_true rfl) (c_in (zi2n (by omega)) (zi2n (by omega)) (zi2n (by omega)) ⟨_, rfl, ?_⟩)
        exact fin _ (by omega)
      refine Zm.go [some (.ref _), some (.int _), some (.int _)] vl_143 rfl ?_
      refine Zp.aload_n k_143_0 rfl ?_
      refine Zp.getV k_143_1 rfl (zlt rfl) m_93 g1 ?_
      refine Zp.if_neN k_143_4 (by omega) (fun c_4 => absurd c_4 (by omega)) (fun c_4 => ?_)
      refine Zp.aload_n k_143_7 rfl ?_
      refine Zp.aload_n k_143_8 rfl ?_
      refine Zp.getV k_143_9 rfl (zlt rfl) m_93 g3 ?_
      refine Zp.iconst (nI 2) k_143_12 (by decide) ?_
      refine Zp.icmp_neN k_143_13 (by omega) (by omega) (fun c_13 => absurd c_13 (by omega)) (fun c_13 => ?_)
      refine Zp.iconst (nI 1) k_143_16 (by decide) ?_
      refine Zp.goto k_143_17 ?_
      refine Zp.iconst (nI 2) k_143_21 (by decide) ?_
      refine Zp.callv2V v_137 k_143_22 m_93 (Nat.le_of_ble_eq_true rfl) (Nat.le_of_ble_eq_true rfl) (c_needsM g1 (by decide) (by decide) r20 (fun z => ⟨rfl, ?_⟩) (fun z => absurd z (by decide)))
      exact second
    · have hrd : rdN T lo hi p = .inl (2, (tok T p).2.1) := by
        unfold rdN
        rw [if_neg k4, if_pos k1]
      have hsr : srt (tok T p).1 ≤ 3 ∧ ¬ srt (tok T p).1 = 2 := by
        unfold srt
        repeat' split
        all_goals omega
      refine Zm.go [some (.ref _), some (.int _), some (.int _)] vl_143 rfl ?_
      refine Zp.aload_n k_143_0 rfl ?_
      refine Zp.getV k_143_1 rfl (zlt rfl) m_93 (by first | exact g1 | exact ((zpu_k _ 93 _ (by decide)).trans (zpu_s _ _ _ _))) ?_
      refine Zp.if_neN k_143_4 (by omega) (fun c_4 => absurd c_4 (by omega)) (fun c_4 => ?_)
      refine Zp.aload_n k_143_7 rfl ?_
      refine Zp.aload_n k_143_8 rfl ?_
      refine Zp.getV k_143_9 rfl (zlt rfl) m_93 g3 ?_
      refine Zp.iconst (nI 2) k_143_12 (by decide) ?_
      refine Zp.icmp_neN k_143_13 (by omega) (by omega) (fun c_13 => ?_) (fun c_13 => absurd c_13 (by omega))
      refine Zp.iconst (nI 0) k_143_20 (by decide) ?_
      refine Zp.iconst (nI 2) k_143_21 (by decide) ?_
      refine Zp.callv2V v_137 k_143_22 m_93 (Nat.le_of_ble_eq_true rfl) (Nat.le_of_ble_eq_true rfl) (c_needsM g1 (by decide) (by decide) r20 (fun z => absurd z (by decide)) (fun z z2 => ⟨rfl, ?_⟩))
      refine Zp.aload_n k_143_25 rfl ?_
      refine Zp.getV k_143_26 rfl (zlt rfl) m_93 ((zpu_k _ 93 _ (by decide)).trans (zpu_s _ _ _ _)) ?_
      refine Zp.if_neN k_143_29 (by omega) (fun c_29 => ?_) (fun c_29 => absurd c_29 (by omega))
      refine Zp.aload_n k_143_49 rfl ?_
      refine Zp.getV k_143_50 rfl (zlt rfl) m_93 ((zpu_k _ 93 _ (by decide)).trans (zpu_s _ _ _ _)) ?_
      refine Zp.if_neN k_143_53 (by omega) (fun c_53 => ?_) (fun c_53 => absurd c_53 (by omega))
      refine Zp.iconst (nI 0) k_143_63 (by decide) ?_
      refine Zp.iret _ k_143_64 vr_143 rfl ?_
      exact hbad 2 _ _ hrd rfl ⟨by rw [zpu_k _ _ _ (by decide), zpu_s], zpu_s _ _ _ _, by decide, by decide⟩ (((FrN.rf I).pu _ (by decide)).pu _ (by decide))
theorem c_readNumberF {lo hi : Nat} (ft : FT I c s) (hq : Q (some (.int (nI 0))) I L) : Zm G 144 [.ref 93, .int (nI lo), .int (nI hi)] I L Q := by
  refine Zm.go [some (.ref _), some (.int _), some (.int _), none] vl_144 rfl ?_
  refine Zp.aload_n k_144_0 rfl ?_
  refine Zp.iload_n k_144_1 rfl ?_
  refine Zp.iload_n k_144_2 rfl ?_
  refine Zp.callv2I v_143 k_144_3 m_93 (Nat.le_of_ble_eq_true rfl) (Nat.le_of_ble_eq_true rfl) (c_lookedF ft ⟨_, rfl, ?_⟩)
  refine Zp.istore_n [some (.ref _), some (.int _), some (.int _), some (.int _)] k_144_6 (Nat.lt_of_lt_of_eq (zlt rfl : 3 < 4) vl_144.symm) rfl ?_
  refine Zp.aload_n k_144_7 rfl ?_
  refine Zp.callv0V v_142 k_144_8 m_93 (Nat.le_of_ble_eq_true rfl) (Nat.le_of_ble_eq_true rfl) (c_nextF ft.1 ft.2.2.1 ft.2.2.2 ⟨rfl, ?_⟩)
  refine Zp.iload_n k_144_11 rfl ?_
  refine Zp.iret _ k_144_12 vr_144 rfl ?_
  exact hq
theorem c_readNumberM {lo hi : Nat} (tp : TpM I T) (to : To T) (hp : p ≤ T.1) (rt : RT I T p) (hlo : lo < 200) (hhi : hi < 200)
    (hbad : ∀ c s' I', rdN T lo hi p = .inl (c, s') → FT I' c s' → FrN I I' → Q (some (.int (nI 0))) I' L)
    (hok : ∀ v e I', rdN T lo hi p = .inr (v, e) → RT I' T e → FrN I I' → Q (some (.int (nI v))) I' L) : Zm G 144 [.ref 93, .int (nI lo), .int (nI hi)] I L Q := by
  have bad : ∀ c s' I2, rdN T lo hi p = .inl (c, s') → FT I2 c s' → FrN I I2 → Zp G 144 6 [some (.ref 93), some (.int (nI lo)), some (.int (nI hi)), none] [.int (nI 0)] I2 L Q := by
    intro c s' I2 hr ft f2
    refine Zp.istore_n [some (.ref _), some (.int _), some (.int _), some (.int _)] k_144_6 (Nat.lt_of_lt_of_eq (zlt rfl : 3 < 4) vl_144.symm) rfl ?_
    refine Zp.aload_n k_144_7 rfl ?_
    refine Zp.callv0V v_142 k_144_8 m_93 (Nat.le_of_ble_eq_true rfl) (Nat.le_of_ble_eq_true rfl) (c_nextF ft.1 ft.2.2.1 ft.2.2.2 ⟨rfl, ?_⟩)
    refine Zp.iload_n k_144_11 rfl ?_
    refine Zp.iret _ k_144_12 vr_144 rfl ?_
    exact hbad c s' I2 hr ft f2
  have ok : ∀ v e, rdN T lo hi p = .inr (v, e) → Zp G 144 6 [some (.ref 93), some (.int (nI lo)), some (.int (nI hi)), none] [.int (nI v)] I L Q := by
    intro v e hr
    obtain ⟨r1, r2, r3, r4, r5, r6, r7⟩ := rdN_ok hp hr
    obtain ⟨g1, g2, g3, g4⟩ := rt.2.2 (by omega)
    rw [r6] at g2
    refine Zp.istore_n [some (.ref _), some (.int _), some (.int _), some (.int _)] k_144_6 (Nat.lt_of_lt_of_eq (zlt rfl : 3 < 4) vl_144.symm) rfl ?_
    refine Zp.aload_n k_144_7 rfl ?_
    refine Zp.callv0V v_142 k_144_8 m_93 (Nat.le_of_ble_eq_true rfl) (Nat.le_of_ble_eq_true rfl) (c_nextM tp to r4 g1 g2 (fun I3 rt3 f3 => ⟨rfl, ?_⟩))
    refine Zp.iload_n k_144_11 rfl ?_
    refine Zp.iret _ k_144_12 vr_144 rfl ?_
    exact hok v e I3 hr rt3 f3
  refine Zm.go [some (.ref _), some (.int _), some (.int _), none] vl_144 rfl ?_
  refine Zp.aload_n k_144_0 rfl ?_
  refine Zp.iload_n k_144_1 rfl ?_
  refine Zp.iload_n k_144_2 rfl ?_
  refine Zp.callv2I v_143 k_144_3 m_93 (Nat.le_of_ble_eq_true rfl) (Nat.le_of_ble_eq_true rfl) (c_lookedM rt to hp hlo hhi (fun c s' I2 hr _ ft f2 => ⟨_, rfl, bad c s' I2 hr ft f2⟩) (fun v e hr => ⟨_, rfl, ok v e hr⟩))
  
theorem c_readHelperF (ft : FT I c s) (hq : ∀ I', FT I' c s → FrH I I' → Q (some (.int (nI 0))) I' L) : Zm G 145 [.ref 93] I L Q := by
  refine Zm.go [some (.ref _), none] vl_145 rfl ?_
  refine Zp.aload_n k_145_0 rfl ?_
  refine Zp.iconst (nI 0) k_145_1 (by decide) ?_
  refine Zp.iconst (nI 4) k_145_2 (by decide) ?_
  refine Zp.callv2I v_144 k_145_3 m_93 (Nat.le_of_ble_eq_true rfl) (Nat.le_of_ble_eq_true rfl) (c_readNumberF ft ⟨_, rfl, ?_⟩)
  refine Zp.istore_n [some (.ref _), some (.int _)] k_145_6 (Nat.lt_of_lt_of_eq (zlt rfl : 1 < 2) vl_145.symm) rfl ?_
  refine Zp.aload_n k_145_7 rfl ?_
  refine Zp.iload_n k_145_8 rfl ?_
  refine Zp.aload_n k_145_9 rfl ?_
  refine Zp.getV k_145_10 rfl (zlt rfl) m_93 rfl ?_
  refine Zp.icmp_leZ _ _ k_145_13 (nI_toInt (by omega)) rfl (fun c_13 => ?_) (fun c_13 => ?_)
  · refine Zp.aload_n k_145_20 rfl ?_
    refine Zp.getV k_145_21 rfl (zlt rfl) m_93 rfl ?_
    refine Zp.putI k_145_24 rfl (zlt rfl) m_93 ?_
    refine Zp.iload_n k_145_27 rfl ?_
    refine Zp.iret _ k_145_28 vr_145 rfl ?_
    exact hq _ (ft.pu (by decide)) ⟨fun q a => zpu_q _ _ _ a, fun j a b => zpu_k _ _ _ b⟩
  · refine Zp.iload_n k_145_16 rfl ?_
    refine Zp.goto k_145_17 ?_
    refine Zp.putI k_145_24 rfl (zlt rfl) m_93 ?_
    refine Zp.iload_n k_145_27 rfl ?_
    refine Zp.iret _ k_145_28 vr_145 rfl ?_
    exact hq _ (ft.pu (by decide)) ⟨fun q a => zpu_q _ _ _ a, fun j a b => zpu_k _ _ _ b⟩
theorem c_readHelperM (tp : TpM I T) (to : To T) (hp : p ≤ T.1) (rt : RT I T p) (hg : HG (I 93 16) h) (hh : h ≤ 5)
    (hbad : ∀ c s' I', rdH T (-1) p = .inl (c, s') → FT I' c s' → FrH I I' → Q (some (.int (nI 0))) I' L)
    (hok : ∀ a e I', rdH T (-1) p = .inr (a, e) → RT I' T e → HG (I' 93 16) (max h (a + 1)) → FrH I I' → Q (some (.int (nI a))) I' L) : Zm G 145 [.ref 93] I L Q := by
  have eq1 : ∀ c s', rdN T 0 4 p = .inl (c, s') → rdH T (-1) p = .inl (c, s') := fun c s' h => by unfold rdH; rw [h]
  have eq2 : ∀ v e, rdN T 0 4 p = .inr (v, e) → rdH T (-1) p = .inr (v, e) := fun v e h => by
    unfold rdH
    rw [h]
    exact if_neg (by omega)
  have bad : ∀ c s' I2, rdN T 0 4 p = .inl (c, s') → FT I2 c s' → FrN I I2 → Zp G 145 6 [some (.ref 93), none] [.int (nI 0)] I2 L Q := by
    intro c s' I2 hr ft f2
    refine Zp.istore_n [some (.ref _), some (.int _)] k_145_6 (Nat.lt_of_lt_of_eq (zlt rfl : 1 < 2) vl_145.symm) rfl ?_
    refine Zp.aload_n k_145_7 rfl ?_
    refine Zp.iload_n k_145_8 rfl ?_
    refine Zp.aload_n k_145_9 rfl ?_
    refine Zp.getV k_145_10 rfl (zlt rfl) m_93 rfl ?_
    refine Zp.icmp_leZ _ _ k_145_13 (nI_toInt (by omega)) rfl (fun c_13 => ?_) (fun c_13 => ?_)
    · refine Zp.aload_n k_145_20 rfl ?_
      refine Zp.getV k_145_21 rfl (zlt rfl) m_93 rfl ?_
      refine Zp.putI k_145_24 rfl (zlt rfl) m_93 ?_
      refine Zp.iload_n k_145_27 rfl ?_
      refine Zp.iret _ k_145_28 vr_145 rfl ?_
      exact hbad c s' _ (eq1 c s' hr) (ft.pu (by decide)) (f2.h.tr ⟨fun q a => zpu_q _ _ _ a, fun j a b => zpu_k _ _ _ b⟩)
    · refine Zp.iload_n k_145_16 rfl ?_
      refine Zp.goto k_145_17 ?_
      refine Zp.putI k_145_24 rfl (zlt rfl) m_93 ?_
      refine Zp.iload_n k_145_27 rfl ?_
      refine Zp.iret _ k_145_28 vr_145 rfl ?_
      exact hbad c s' _ (eq1 c s' hr) (ft.pu (by decide)) (f2.h.tr ⟨fun q a => zpu_q _ _ _ a, fun j a b => zpu_k _ _ _ b⟩)
  have ok : ∀ v e I2, rdN T 0 4 p = .inr (v, e) → RT I2 T e → FrN I I2 → Zp G 145 6 [some (.ref 93), none] [.int (nI v)] I2 L Q := by
    intro v e I2 hr rt2 f2
    have hg2 : HG (I2 93 16) h := by rw [f2.2 16 (by omega)]; exact hg
    have r2 := (rdN_ok hp hr).2.1
    refine Zp.istore_n [some (.ref _), some (.int _)] k_145_6 (Nat.lt_of_lt_of_eq (zlt rfl : 1 < 2) vl_145.symm) rfl ?_
    refine Zp.aload_n k_145_7 rfl ?_
    refine Zp.iload_n k_145_8 rfl ?_
    refine Zp.aload_n k_145_9 rfl ?_
    refine Zp.getV k_145_10 rfl (zlt rfl) m_93 rfl ?_
    refine Zp.icmp_leZ _ _ k_145_13 (nI_toInt (by omega)) rfl (fun c_13 => ?_) (fun c_13 => ?_)
    · refine Zp.aload_n k_145_20 rfl ?_
      refine Zp.getV k_145_21 rfl (zlt rfl) m_93 rfl ?_
      refine Zp.putI k_145_24 rfl (zlt rfl) m_93 ?_
      refine Zp.iload_n k_145_27 rfl ?_
      refine Zp.iret _ k_145_28 vr_145 rfl ?_
      refine hok v e _ (eq2 v e hr) (rt2.pu (by decide)) ?_ (f2.h.tr ⟨fun q a => zpu_q _ _ _ a, fun j a b => zpu_k _ _ _ b⟩)
      rw [zpu_s]
      obtain ⟨g1, g2⟩ := hg2
      have ev := nI_toInt (n := v) (by omega)
      unfold HG
      by_cases h0 : h = 0
      · have := g1 h0
        constructor <;> intro <;> omega
      · have := g2 h0
        constructor <;> intro <;> omega
    · refine Zp.iload_n k_145_16 rfl ?_
      refine Zp.goto k_145_17 ?_
      refine Zp.putI k_145_24 rfl (zlt rfl) m_93 ?_
      refine Zp.iload_n k_145_27 rfl ?_
      refine Zp.iret _ k_145_28 vr_145 rfl ?_
      refine hok v e _ (eq2 v e hr) (rt2.pu (by decide)) ?_ (f2.h.tr ⟨fun q a => zpu_q _ _ _ a, fun j a b => zpu_k _ _ _ b⟩)
      rw [zpu_s]
      obtain ⟨g1, g2⟩ := hg2
      have ev := nI_toInt (n := v) (by omega)
      unfold HG
      by_cases h0 : h = 0
      · have := g1 h0
        constructor <;> intro <;> omega
      · have := g2 h0
        constructor <;> intro <;> omega
  refine Zm.go [some (.ref _), none] vl_145 rfl ?_
  refine Zp.aload_n k_145_0 rfl ?_
  refine Zp.iconst (nI 0) k_145_1 (by decide) ?_
  refine Zp.iconst (nI 4) k_145_2 (by decide) ?_
  refine Zp.callv2I v_144 k_145_3 m_93 (Nat.le_of_ble_eq_true rfl) (Nat.le_of_ble_eq_true rfl) (c_readNumberM tp to hp rt (by decide) (by decide) (fun c s' I2 hr ft f2 => ⟨_, rfl, bad c s' I2 hr ft f2⟩) (fun v e I2 hr rt2 f2 => ⟨_, rfl, ok v e I2 hr rt2 f2⟩))
  
end LOOKED
