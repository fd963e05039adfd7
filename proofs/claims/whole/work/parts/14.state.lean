/-! THE WHOLE STATE AND ITS TWO PICTURES -/
/-- a kitchen: soup, slips, plan, what was seen -/
abbrev zKi : Type := zSo × zSl × zPl × zSe
abbrev kS (K : zKi) : zSo := K.1
abbrev kP (K : zKi) : zSl := K.2.1
abbrev kU (K : zKi) : zPl := K.2.2.1
abbrev kE (K : zKi) : zSe := K.2.2.2
def Kp (I : zI) (h : Nat) (K : zKi) : Prop := Sp I (h + 1) (kS K) ∧ Lp I (h + 4) (kP K) ∧ Pp I (h + 8) (kU K) ∧ Ep I (h + 10) (kE K)
def Ko (K : zKi) : Prop := So (kS K) ∧ Sz (kS K) ∧ sstep (kS K) ≤ snoon (kS K) ∧ Lo (sn (kS K)) (kP K) ∧ Po (sn (kS K)) (kU K) ∧ Eo (kE K)
def Km (f : Nat → Int32) (K : zKi) : Prop := Mp f (kS K) ∧ Xp f (lu (kP K)) (kU K) (kE K)
/-- an image shares helpers and slips with what is now -/
def Kl (K K0 : zKi) : Prop := sn (kS K0) = sn (kS K) ∧ lc (kP K0) = lc (kP K) ∧ ∀ i, i < lc (kP K) → l1 (kP K0) i = l1 (kP K) i ∧ l2 (kP K0) i = l2 (kP K) i ∧ l3 (kP K0) i = l3 (kP K) i
/-- a sheet: 0 for none, else the lane and 1; its length; its cells -/
abbrev zSh : Type := Nat × Nat × (Nat → Int32)
/-- now, two images, whether each is kept, the tape, the text's fault, the sheets' fault, the sheets -/
abbrev zQs : Type := zKi × zKi × zKi × Nat × Nat × (Nat × (Nat → Nat)) × Nat × Nat × (Nat → zSh)
abbrev aK (A : zQs) : zKi := A.1
abbrev a0 (A : zQs) : zKi := A.2.1
abbrev a1 (A : zQs) : zKi := A.2.2.1
abbrev ak0 (A : zQs) : Nat := A.2.2.2.1
abbrev ak1 (A : zQs) : Nat := A.2.2.2.2.1
abbrev aT (A : zQs) : Nat × (Nat → Nat) := A.2.2.2.2.2.1
abbrev aF (A : zQs) : Nat := A.2.2.2.2.2.2.1
abbrev aR (A : zQs) : Nat := A.2.2.2.2.2.2.2.1
abbrev aH (A : zQs) : Nat → zSh := A.2.2.2.2.2.2.2.2
def Hc (I : zI) (k : Nat) (s : zSh) : Prop := (s.1 = 0 → I (85 + 2 * k) 0 = -1) ∧ (s.1 ≠ 0 → I (85 + 2 * k) 0 = nI s.2.1 ∧ I (85 + 2 * k) 2 = nI (s.1 - 1) ∧ ∀ i, i < s.2.1 → I (86 + 2 * k) i = s.2.2 i)
def Hm (I : zI) (k : Nat) (s : zSh) : Prop := (s.1 = 0 → I 107 k = -4) ∧ (s.1 ≠ 0 → I 107 k = nI (s.1 - 1) ∧ I 108 k = nI s.2.1 ∧ ∀ i, i < s.2.1 → I 109 (40 * k + i) = s.2.2 i)
/-- the class's picture of the state -/
def PicC (A : zQs) (I : zI) : Prop := Kp I 1 (aK A) ∧ I 0 2 = nI (ak0 A + 2 * ak1 A) ∧ (ak0 A = 1 → Kp I 59 (a0 A)) ∧ (ak1 A = 1 → Kp I 72 (a1 A)) ∧ I 29 1 = nI (aT A).1 ∧ (∀ i, i < (aT A).1 → I 30 i = nI ((aT A).2 i)) ∧ I 0 9 = nI (aF A) ∧ I 0 10 = nI (aR A) ∧ ∀ k, k < 4 → Hc I k (aH A k)
/-- the reference's picture of the state -/
def PicM (A : zQs) (I : zI) : Prop := I 93 3 = nI (sn (kS (aK A))) ∧ Km (I 94) (aK A) ∧ I 93 4 = nI (lc (kP (aK A))) ∧ (∀ i, i < lc (kP (aK A)) → I 97 i = nI (l1 (kP (aK A)) i)) ∧ (∀ i, i < lc (kP (aK A)) → I 98 i = nI (l2 (kP (aK A)) i)) ∧ (∀ i, i < lc (kP (aK A)) → I 99 i = nI (l3 (kP (aK A)) i)) ∧ I 96 0 = nI (ak0 A) ∧ I 96 1 = nI (ak1 A) ∧ (ak0 A = 1 → Km (fun j => I 94 (58 + j)) (a0 A)) ∧ (ak1 A = 1 → Km (fun j => I 94 (116 + j)) (a1 A)) ∧ I 93 18 = nI (aT A).1 ∧ (∀ i, i < (aT A).1 → I 104 i = nI ((aT A).2 i)) ∧ I 93 23 = nI (aF A) ∧ I 93 34 = nI (aR A) ∧ ∀ k, k < 4 → Hm I k (aH A k)
def Ao (A : zQs) : Prop := Ko (aK A) ∧ ak0 A ≤ 1 ∧ ak1 A ≤ 1 ∧ (ak0 A = 1 → Ko (a0 A) ∧ Kl (aK A) (a0 A)) ∧ (ak1 A = 1 → Ko (a1 A) ∧ Kl (aK A) (a1 A)) ∧ (aT A).1 ≤ 160 ∧ (∀ i, i < (aT A).1 → (aT A).2 i < 128) ∧ aF A ≤ 6 ∧ aR A ≤ 4 ∧ ∀ k, k < 4 → (aH A k).1 ≤ 3 ∧ (aH A k).2.1 ≤ 40
def FrC (I I' : zI) : Prop := ∀ q, 93 ≤ q → I' q = I q
def FrM (I I' : zI) : Prop := ∀ q, q < 93 → I' q = I q
theorem FrC.rf (I : zI) : FrC I I := fun _ _ => rfl
theorem FrM.rf (I : zI) : FrM I I := fun _ _ => rfl
/-- both sides answer v and come to A' -/
def zBoth (G : zG) (mc mm : Nat) (av : List Value) (A : zQs) : Prop := ∃ (v : Value) (A' : zQs), Ao A' ∧
  (∀ I L (Q : zP), PicC A I → (∀ I', PicC A' I' → FrC I I' → Q (some v) I' L) → Zm G mc (.ref 0 :: av) I L Q) ∧
  (∀ I L (Q : zP), PicM A I → (∀ I' L', PicM A' I' → FrM I I' → Q (some v) I' L') → Zm G mm (.ref 93 :: av) I L Q)
/-! what is at its place -/
theorem sa_2 : Sa 2 := ⟨m_2, m_3, m_4, r_2_6, r_2_7⟩
theorem la_5 : La 5 := ⟨m_5, m_6, m_7, m_8, r_5_2, r_5_3, r_5_4⟩
theorem pa_9 : Pa 9 := ⟨m_9, m_10, r_9_1⟩
theorem ea_11 : Ea 11 := ⟨m_11, m_12, m_13, r_11_1, r_11_2⟩
theorem sa_31 : Sa 31 := ⟨m_31, m_32, m_33, r_31_6, r_31_7⟩
theorem sa_17 : Sa 17 := ⟨m_17, m_18, m_19, r_17_6, r_17_7⟩
theorem la_20 : La 20 := ⟨m_20, m_21, m_22, m_23, r_20_2, r_20_3, r_20_4⟩
theorem pa_24 : Pa 24 := ⟨m_24, m_25, r_24_1⟩
theorem ea_26 : Ea 26 := ⟨m_26, m_27, m_28, r_26_1, r_26_2⟩
theorem sa_60 : Sa 60 := ⟨m_60, m_61, m_62, r_60_6, r_60_7⟩
theorem la_63 : La 63 := ⟨m_63, m_64, m_65, m_66, r_63_2, r_63_3, r_63_4⟩
theorem pa_67 : Pa 67 := ⟨m_67, m_68, r_67_1⟩
theorem ea_69 : Ea 69 := ⟨m_69, m_70, m_71, r_69_1, r_69_2⟩
theorem sa_73 : Sa 73 := ⟨m_73, m_74, m_75, r_73_6, r_73_7⟩
theorem la_76 : La 76 := ⟨m_76, m_77, m_78, m_79, r_76_2, r_76_3, r_76_4⟩
theorem pa_80 : Pa 80 := ⟨m_80, m_81, r_80_1⟩
theorem ea_82 : Ea 82 := ⟨m_82, m_83, m_84, r_82_1, r_82_2⟩
theorem sa_39 : Sa 39 := ⟨m_39, m_40, m_41, r_39_6, r_39_7⟩
theorem sa_42 : Sa 42 := ⟨m_42, m_43, m_44, r_42_6, r_42_7⟩
theorem sa_45 : Sa 45 := ⟨m_45, m_46, m_47, r_45_6, r_45_7⟩
theorem sa_48 : Sa 48 := ⟨m_48, m_49, m_50, r_48_6, r_48_7⟩
theorem sa_51 : Sa 51 := ⟨m_51, m_52, m_53, r_51_6, r_51_7⟩
/-! pictures under changes -/
theorem Kp.fr {I I' : zI} {h : Nat} {K : zKi} (k : Kp I h K) (e : ∀ q, h < q → q ≤ h + 12 → I' q = I q) : Kp I' h K :=
  ⟨k.1.fr (e _ (by omega) (by omega)) (e _ (by omega) (by omega)) (e _ (by omega) (by omega)), k.2.1.fr (e _ (by omega) (by omega)) (e _ (by omega) (by omega)) (e _ (by omega) (by omega)) (e _ (by omega) (by omega)), k.2.2.1.fr (e _ (by omega) (by omega)) (e _ (by omega) (by omega)), k.2.2.2.fr (e _ (by omega) (by omega)) (e _ (by omega) (by omega)) (e _ (by omega) (by omega))⟩
theorem Kp.uS {I I' : zI} {h : Nat} {K : zKi} {S : zSo} (k : Kp I h K) (hs : Sp I' (h + 1) S) (e : ∀ q, h + 3 < q → q ≤ h + 12 → I' q = I q) : Kp I' h (S, K.2) :=
  ⟨hs, k.2.1.fr (e _ (by omega) (by omega)) (e _ (by omega) (by omega)) (e _ (by omega) (by omega)) (e _ (by omega) (by omega)), k.2.2.1.fr (e _ (by omega) (by omega)) (e _ (by omega) (by omega)), k.2.2.2.fr (e _ (by omega) (by omega)) (e _ (by omega) (by omega)) (e _ (by omega) (by omega))⟩
theorem Km.fr {f g : Nat → Int32} {K : zKi} (h : Km f K) (ho : Ko K) (e : ∀ j, j < 58 → g j = f j) : Km g K :=
  ⟨h.1.fr ho.1.1 (fun j hj => e j (by omega)), h.2.fr ho.2.2.2.2.1.1 ho.2.2.2.2.2.1 (fun j _ hj => e j hj)⟩
def wK (A : zQs) (K : zKi) : zQs := (K, A.2)
theorem PicC.fr {A : zQs} {I I' : zI} (h : PicC A I) (e : ∀ q, q ≤ 13 ∨ q = 29 ∨ q = 30 ∨ (59 ≤ q ∧ q ≤ 92) → I' q = I q) : PicC A I' := by
  obtain ⟨h1, h2, h3, h4, h5, h6, h7, h8, h9⟩ := h
  refine ⟨h1.fr fun q a b => e q (by omega), by rw [e 0 (by omega)]; exact h2, fun c => (h3 c).fr fun q a b => e q (by omega), fun c => (h4 c).fr fun q a b => e q (by omega), by rw [e 29 (by omega)]; exact h5, by rw [e 30 (by omega)]; exact h6, by rw [e 0 (by omega)]; exact h7, by rw [e 0 (by omega)]; exact h8, fun k hk => ?_⟩
  have := h9 k hk
  unfold Hc at this ⊢
  rw [e (85 + 2 * k) (by omega), e (86 + 2 * k) (by omega)]
  exact this
theorem PicC.now {A : zQs} {I I' : zI} {K : zKi} (h : PicC A I) (hk : Kp I' 1 K) (e : ∀ q, q = 0 ∨ q = 29 ∨ q = 30 ∨ (59 ≤ q ∧ q ≤ 92) → I' q = I q) : PicC (wK A K) I' := by
  obtain ⟨h1, h2, h3, h4, h5, h6, h7, h8, h9⟩ := h
  refine ⟨hk, by rw [e 0 (by omega)]; exact h2, fun c => (h3 c).fr fun q a b => e q (by omega), fun c => (h4 c).fr fun q a b => e q (by omega), by rw [e 29 (by omega)]; exact h5, by rw [e 30 (by omega)]; exact h6, by rw [e 0 (by omega)]; exact h7, by rw [e 0 (by omega)]; exact h8, fun k hk => ?_⟩
  have := h9 k hk
  unfold Hc at this ⊢
  show (_ → I' _ _ = -1) ∧ _
  rw [e (85 + 2 * k) (by omega), e (86 + 2 * k) (by omega)]
  exact this
theorem PicC.soup {A : zQs} {I I' : zI} {S : zSo} (h : PicC A I) (hs : Sp I' 2 S) (e : ∀ q, q ≠ 2 → q ≠ 3 → q ≠ 4 → I' q = I q) : PicC (wK A (S, (aK A).2)) I' :=
  h.now (h.1.uS hs fun q a b => e q (by omega) (by omega) (by omega)) fun q hq => e q (by omega) (by omega) (by omega)
theorem PicM.fr {A : zQs} {I I' : zI} (h : PicM A I) (e3 : I' 93 3 = I 93 3) (e4 : I' 93 4 = I 93 4) (e18 : I' 93 18 = I 93 18) (e23 : I' 93 23 = I 93 23) (e34 : I' 93 34 = I 93 34) (e : ∀ q, q = 94 ∨ (96 ≤ q ∧ q ≤ 99) ∨ q = 104 ∨ (107 ≤ q ∧ q ≤ 109) → I' q = I q) : PicM A I' := by
  unfold PicM Hm at h ⊢
  rw [e3, e4, e18, e23, e34, e 94 (by omega), e 96 (by omega), e 97 (by omega), e 98 (by omega), e 99 (by omega), e 104 (by omega), e 107 (by omega), e 108 (by omega), e 109 (by omega)]
  exact h
theorem PicM.at {A : zQs} {I I' : zI} (h : PicM A I) (e : ∀ q, q ≠ 95 → I' q = I q) : PicM A I' :=
  h.fr (by rw [e 93 (by decide)]) (by rw [e 93 (by decide)]) (by rw [e 93 (by decide)]) (by rw [e 93 (by decide)]) (by rw [e 93 (by decide)]) fun q hq => e q (by omega)
/-- the reference's row of what is now has become K -/
theorem PicM.now {A : zQs} {I I' : zI} {K : zKi} (h : PicM A I) (ho : Ao A) (hl : Kl (aK A) K) (hk : Km (I' 94) K) (hi : ∀ j, 58 ≤ j → I' 94 j = I 94 j) (e3 : I' 93 3 = I 93 3) (e4 : I' 93 4 = I 93 4) (e18 : I' 93 18 = I 93 18) (e23 : I' 93 23 = I 93 23) (e34 : I' 93 34 = I 93 34) (e : ∀ q, (96 ≤ q ∧ q ≤ 99) ∨ q = 104 ∨ (107 ≤ q ∧ q ≤ 109) → I' q = I q) : PicM (wK A K) I' := by
  obtain ⟨h1, h2, h3, h4, h5, h6, h7, h8, h9, h10, h11, h12, h13, h14, h15⟩ := h
  obtain ⟨o1, o2, o3, o4, o5, o6, o7⟩ := ho
  obtain ⟨l1', l2', l3'⟩ := hl
  refine ⟨by rw [e3, h1]; exact congrArg nI l1'.symm, hk, by rw [e4, h3]; exact congrArg nI l2'.symm, fun i hi => ?_, fun i hi => ?_, fun i hi => ?_, by rw [e 96 (by omega)]; exact h7, by rw [e 96 (by omega)]; exact h8, fun c => (h9 c).fr (o4 c).1 fun j hj => hi _ (by omega), fun c => (h10 c).fr (o5 c).1 fun j hj => hi _ (by omega), by rw [e18]; exact h11, by rw [e 104 (by omega)]; exact h12, by rw [e23]; exact h13, by rw [e34]; exact h14, fun k hk => ?_⟩
  · have hi' : i < lc (kP (aK A)) := by rw [← l2']; exact hi
    rw [e 97 (by omega), h4 i hi']; exact congrArg nI (l3' i hi').1.symm
  · have hi' : i < lc (kP (aK A)) := by rw [← l2']; exact hi
    rw [e 98 (by omega), h5 i hi']; exact congrArg nI (l3' i hi').2.1.symm
  · have hi' : i < lc (kP (aK A)) := by rw [← l2']; exact hi
    rw [e 99 (by omega), h6 i hi']; exact congrArg nI (l3' i hi').2.2.symm
  · have := h15 k hk
    unfold Hm at this ⊢
    rw [e 107 (by omega), e 108 (by omega), e 109 (by omega)]
    exact this
theorem PicM.st {A : zQs} {I I' : zI} {K : zKi} (h : PicM A I) (ho : Ao A) (hl : Kl (aK A) K) (hk : Km (I' 94) K) (hi : ∀ j, 58 ≤ j → I' 94 j = I 94 j) (e : ∀ q, q ≠ 94 → q ≠ 95 → I' q = I q) : PicM (wK A K) I' :=
  h.now ho hl hk hi (by rw [e 93 (by decide) (by decide)]) (by rw [e 93 (by decide) (by decide)]) (by rw [e 93 (by decide) (by decide)]) (by rw [e 93 (by decide) (by decide)]) (by rw [e 93 (by decide) (by decide)]) fun q hq => e q (by omega) (by omega)
theorem Kl.rf (K : zKi) : Kl K K := ⟨rfl, rfl, fun _ _ => ⟨rfl, rfl, rfl⟩⟩
theorem Kl.tr {K J H : zKi} (h : Kl K J) (k : Kl K H) : Kl J H := ⟨by rw [k.1, h.1], by rw [k.2.1, h.2.1], fun i hi => by
  have hi' : i < lc (kP K) := by rw [← h.2.1]; exact hi
  obtain ⟨b1, b2, b3⟩ := h.2.2 i hi'
  obtain ⟨c1, c2, c3⟩ := k.2.2 i hi'
  exact ⟨c1.trans b1.symm, c2.trans b2.symm, c3.trans b3.symm⟩⟩
theorem Ao.now {A : zQs} {K : zKi} (ho : Ao A) (hk : Ko K) (hl : Kl (aK A) K) : Ao (wK A K) := by
  obtain ⟨o1, o2, o3, o4, o5, o6⟩ := ho
  exact ⟨hk, o2, o3, fun c => ⟨(o4 c).1, hl.tr (o4 c).2⟩, fun c => ⟨(o5 c).1, hl.tr (o5 c).2⟩, o6⟩
/-- the numbers of a row of soup changed only: the rest stays -/
theorem Km.uS {f g : Nat → Int32} {K : zKi} {S : zSo} (h : Km f K) (ho : Ko K) (hm : Mp g S) (e : ∀ j, 35 ≤ j → j < 58 → g j = f j) : Km g (S, K.2) := ⟨hm, h.2.fr ho.2.2.2.2.1.1 ho.2.2.2.2.2.1 e⟩
theorem Po.n {m n : Nat} {P : zPl} (h : Po m P) (e : n = m) : Po n P := e ▸ h
theorem Lo.n {m n : Nat} {P : zSl} (h : Lo m P) (e : n = m) : Lo n P := e ▸ h
theorem Ko.uS {K : zKi} {S : zSo} (h : Ko K) (hs : So S) (hz : Sz S) (hn : sn S = sn (kS K)) (hst : sstep S ≤ snoon S) : Ko (S, K.2) := ⟨hs, hz, hst, h.2.2.2.1.n hn, h.2.2.2.2.1.n hn, h.2.2.2.2.2⟩
theorem Kl.uS {K : zKi} {S : zSo} (hn : sn S = sn (kS K)) : Kl K (S, K.2) := ⟨hn, rfl, fun _ _ => ⟨rfl, rfl, rfl⟩⟩
theorem Sz.uh {S : zSo} {a b v : Nat} (h : Sz S) (hn : sn S ≤ 5) (ha : a < sn S) (hb : b < sn S) (hab : ¬ a = b) : Sz (sUh S (a * 5 + b) v) := fun c d hc hd hh => by
  have hh' : sn S ≤ c ∨ sn S ≤ d ∨ c = d := hh
  show va_up (sht S) (a * 5 + b) v (c * 5 + d) = 0
  rw [va_up_n _ _ (by omega)]
  exact h c d hc hd hh'
theorem Sz.st {S : zSo} {a b : Nat} (h : Sz S) (hn : sn S ≤ 5) (ha : a < sn S) (hb : b < sn S) (hab : ¬ a = b) : Sz (stS S a b) := by
  unfold stS coS
  have tl : ∀ T : zSo, Sz T → sn T = sn S → Sz (sUstep (sUh (sUh T (a * 5 + b) (sht T (a * 5 + b) - cby T a)) (b * 5 + a) (sht (sUh T (a * 5 + b) (sht T (a * 5 + b) - cby T a)) (b * 5 + a) - cby (sUh T (a * 5 + b) (sht T (a * 5 + b) - cby T a)) b))) := fun T hT e => by
    have h1 : Sz (sUh T (a * 5 + b) (sht T (a * 5 + b) - cby T a)) := hT.uh (by omega) (by omega) (by omega) hab
    exact h1.uh (by show sn T ≤ 5; omega) (by show b < sn T; omega) (by show a < sn T; omega) (fun z => hab z.symm)
  split
  · exact tl _ h rfl
  · exact tl _ h rfl
/-! what the methods share -/
section SHARED
variable {G : zG} {I : zI} {L : zJ} {Q : zP}
theorem c_isWithin {x y z : Int32} {u v w : Int} (hx : x.toInt = u) (hy : y.toInt = v) (hz : z.toInt = w) (hq : Q (some (.int (zbo (v ≤ u ∧ u ≤ w)))) I L) : Zm G 129 [.int x, .int y, .int z] I L Q := by
  subst hx hy hz
  refine Zm.go [some (.int _), some (.int _), some (.int _)] vl_129 rfl ?_
  refine Zp.iload_n k_129_0 rfl ?_
  refine Zp.iload_n k_129_1 rfl ?_
  refine Zp.icmp_ltZ _ _ k_129_2 rfl rfl (fun c_2 => ?_) (fun c_2 => ?_)
  · refine Zp.iconst (nI 0) k_129_14 (by decide) ?_
    refine Zp.iret _ k_129_15 vr_129 rfl ?_
    exact zq0 hq (by omega)
  · refine Zp.iload_n k_129_5 rfl ?_
    refine Zp.iload_n k_129_6 rfl ?_
    refine Zp.icmp_gtZ _ _ k_129_7 rfl rfl (fun c_7 => ?_) (fun c_7 => ?_)
    · refine Zp.iconst (nI 0) k_129_14 (by decide) ?_
      refine Zp.iret _ k_129_15 vr_129 rfl ?_
      exact zq0 hq (by omega)
    · refine Zp.iconst (nI 1) k_129_10 (by decide) ?_
      refine Zp.goto k_129_11 ?_
      refine Zp.iret _ k_129_15 vr_129 rfl ?_
      exact zq1 hq (by omega)
/-- the reference begins: its working row is what is now -/
theorem c_goM {A : zQs} (pm : PicM A I) (ho : Ao A) (hq : ∀ I', PicM A I' → Mp (I' 95) (kS (aK A)) → Xp (I' 95) (lu (kP (aK A))) (kU (aK A)) (kE (aK A)) → (∀ q, q ≠ 95 → I' q = I q) → Q none I' L) : Zm G 159 [.ref 93] I L Q :=
  c_startsM fun I' s1 s2 => by
    have k : Km (I' 95) (aK A) := pm.2.1.fr ho.1 s1
    exact hq I' (pm.at s2) k.1 k.2 s2
end SHARED
