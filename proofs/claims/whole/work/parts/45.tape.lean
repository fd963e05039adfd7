/-! THE TEXT: the constants' own methods, the tape -/
section TEXTP
variable {G : zG} {mid pc pc' : Nat} {lo : List (Option Value)} {st : List Value} {I : zI} {L : zJ} {Q : zP} {a : List Nat}
theorem Zp.ldcT {idx k0 : Nat} (i : Nat) (hi : i < 9) (h : zIn mid pc pc' (.ldc idx) 2 [k0]) (hid : idx = zsidx.getD i 0) (hy : (zy mid).cls = "SpoonHates$Reader") (k : Zp G mid pc' lo (.ref (1000001 + i) :: st) I L Q) : Zp G mid pc lo st I L Q := fun R hR => ZW.ldcT i hi h hid hy (k R hR)
theorem Zp.getSV {idx k0 i k1 k2 k3 : Nat} (hi : i < 9) (h : zIn mid pc pc' (.getfield idx) 3 [k1, k2, k3]) (hw : zHas k0 (.fieldLink (zy mid).cls idx "java/lang/String" "value" "[B") = true) (k : Zp G mid pc' lo (.ref (1000101 + i) :: st) I L Q) : Zp G mid pc lo (.ref (1000001 + i) :: st) I L Q := fun R hR => ZW.getSV hi h hw (k R hR)
theorem Zp.getSC {idx k0 i k1 k2 k3 : Nat} (hi : i < 9) (h : zIn mid pc pc' (.getfield idx) 3 [k1, k2, k3]) (hw : zHas k0 (.fieldLink (zy mid).cls idx "java/lang/String" "coder" "B") = true) (k : Zp G mid pc' lo (.int 0 :: st) I L Q) : Zp G mid pc lo (.ref (1000001 + i) :: st) I L Q := fun R hR => ZW.getSC hi h hw (k R hR)
theorem Zp.getCS {idx k0 : Nat} (h : zIn mid pc pc' (.getstatic idx) 3 a) (hw : zHas k0 (.fieldLink (zy mid).cls idx "java/lang/String" "COMPACT_STRINGS" "Z") = true) (k : Zp G mid pc' lo (.int 1 :: st) I L Q) : Zp G mid pc lo st I L Q := fun R hR => ZW.getCS h hw (k R hR)
theorem Zp.getSI {idx k0 : Nat} (h : zIn mid pc pc' (.getstatic idx) 3 a) (hw : zHas k0 (.fieldLink (zy mid).cls idx "jdk/internal/util/Preconditions" "SIOOBE_FORMATTER" "Ljava/util/function/BiFunction;") = true) (k : Zp G mid pc' lo (.ref 1000300 :: st) I L Q) : Zp G mid pc lo st I L Q := fun R hR => ZW.getSI h hw (k R hR)
theorem Zp.alenT {i : Nat} (hi : i < 9) (h : zIn mid pc pc' .arraylength 1 a) (k : Zp G mid pc' lo (.int (nI (zslen.getD i 0)) :: st) I L Q) : Zp G mid pc lo (.ref (1000101 + i) :: st) I L Q := fun R hR => ZW.alenT hi h (k R hR)
theorem Zp.baldT {i : Nat} {j : Int32} (hi : i < 9) (h : zIn mid pc pc' .baload 1 a) (hj : vp_in j (zslen.getD i 0)) (k : Zp G mid pc' lo (.int ((zsbyt.getD i []).getD j.toNatClampNeg 0) :: st) I L Q) : Zp G mid pc lo (.int j :: .ref (1000101 + i) :: st) I L Q := fun R hR => ZW.baldT hi h hj (k R hR)
theorem Zp.callT {idx t k1 k2 k3 n k5 k6 i m : Nat} {As rest : List Value} (hi : i < 9) (hv : zCs t m = true) (hcl : (zy t).cls = "java/lang/String") (h : zIn mid pc pc' (.invokevirtual idx) 3 [t, k1, k2, k3, n, k5, k6]) (hn : As.length = n) (hr : rest.length ≤ 4) (hlen : (zargs (.ref (1000001 + i) :: As)).length ≤ m)
    (hk : Zm G t (.ref (1000001 + i) :: As) I L (fun r I' L' => Zp G mid pc' lo (r.toList ++ rest) I' L' Q)) : Zp G mid pc lo (As.reverse ++ .ref (1000001 + i) :: rest) I L Q := fun R hR => by
  simp only [zCs, Bool.and_eq_true, decide_eq_true_eq] at hv
  obtain ⟨v1, v4⟩ := hv
  exact ZW.callT (c1 := 0) (s1 := 0) (kc := 0) (ks := 0) hi h v1 hcl hn hr (by rw [v4]; exact hlen) (hk R hR) (fun r w' ⟨I', L', e, _⟩ => by rw [e]; rfl) (fun r w' ⟨I', L', e, q⟩ => by rw [e]; exact q R hR)
theorem Zp.callT0 {idx t k1 k2 k3 k5 k6 i m : Nat} {rest : List Value} (hi : i < 9) (hv : zCs t m = true) (hcl : (zy t).cls = "java/lang/String") (h : zIn mid pc pc' (.invokevirtual idx) 3 [t, k1, k2, k3, 0, k5, k6]) (hr : rest.length ≤ 4) (hlen : (zargs [.ref (1000001 + i)]).length ≤ m)
    (hk : Zm G t [.ref (1000001 + i)] I L (fun r I' L' => ∃ v, r = some (.int v) ∧ Zp G mid pc' lo (.int v :: rest) I' L' Q)) : Zp G mid pc lo (.ref (1000001 + i) :: rest) I L Q :=
  Zp.callT (As := []) hi hv hcl h rfl hr hlen (Zm.mono (fun r I' L' q => by obtain ⟨v, rfl, k⟩ := q; exact k) hk)
theorem Zp.callT1 {idx t k1 k2 k3 k5 k6 i m : Nat} {v1 : Value} {rest : List Value} (hi : i < 9) (hv : zCs t m = true) (hcl : (zy t).cls = "java/lang/String") (h : zIn mid pc pc' (.invokevirtual idx) 3 [t, k1, k2, k3, 1, k5, k6]) (hr : rest.length ≤ 4) (hlen : (zargs [.ref (1000001 + i), v1]).length ≤ m)
    (hk : Zm G t [.ref (1000001 + i), v1] I L (fun r I' L' => ∃ v, r = some (.int v) ∧ Zp G mid pc' lo (.int v :: rest) I' L' Q)) : Zp G mid pc lo (v1 :: .ref (1000001 + i) :: rest) I L Q :=
  Zp.callT (As := [v1]) hi hv hcl h rfl hr hlen (Zm.mono (fun r I' L' q => by obtain ⟨v, rfl, k⟩ := q; exact k) hk)
end TEXTP
/-- the constants' bytes as numbers -/
def sbN : List (List Nat) := [[112, 108, 97, 105, 110], [115, 117, 108, 108, 101, 110], [110, 117, 110], [98, 114, 111, 116, 104, 101, 114], [104, 97, 116, 101], [98, 111, 116, 104], [112, 111, 116], [115, 108, 105, 112], [112, 108, 97, 110]]
def sb_ (i j : Nat) : Nat := (sbN.getD i []).getD j 0
theorem sbN_at : ∀ i, i < 9 → ∀ j, j < zslen.getD i 0 → ((((zsbyt.getD i []).getD j 0) &&& nI 255).toUInt32 % 65536).toInt32 = nI (sb_ i j) ∧ narrow .char (.int (nI (sb_ i j))) = .int (nI (sb_ i j)) ∧ sb_ i j < 128 := by decide +kernel
theorem sl_at : ∀ i, i < 9 → (nI (zslen.getD i 0) >>> ((0 : Int32) &&& 31)) = nI (zslen.getD i 0) ∧ zslen.getD i 0 ≤ 7 ∧ 3 ≤ zslen.getD i 0 := by decide +kernel
section TEXTJ
variable {G : zG} {I : zI} {L : zJ} {Q : zP} {i j : Nat}
theorem c_coder (hi : i < 9) (hq : Q (some (.int 0)) I L) : Zm G 233 [.ref (1000001 + i)] I L Q := by
  refine Zm.go [some (.ref _)] vl_233 rfl ?_
  refine Zp.getCS (k0 := 2165) k_233_0 (by decide +kernel) ?_
  refine Zp.if_eq k_233_3 (fun c => absurd c (by decide)) (fun _ => ?_)
  refine Zp.aload_n k_233_6 rfl ?_
  refine Zp.getSC (k0 := 7007) hi k_233_7 (by decide +kernel) ?_
  refine Zp.goto k_233_10 ?_
  exact Zp.iret _ k_233_14 vr_233 rfl hq
theorem c_isLatin1 (hi : i < 9) (hq : Q (some (.int (nI 1))) I L) : Zm G 234 [.ref (1000001 + i)] I L Q := by
  refine Zm.go [some (.ref _)] vl_234 rfl ?_
  refine Zp.getCS (k0 := 2165) k_234_0 (by decide +kernel) ?_
  refine Zp.if_eq k_234_3 (fun c => absurd c (by decide)) (fun _ => ?_)
  refine Zp.aload_n k_234_6 rfl ?_
  refine Zp.getSC (k0 := 7007) hi k_234_7 (by decide +kernel) ?_
  refine Zp.if_ne k_234_10 (fun c => absurd rfl c) (fun _ => ?_)
  refine Zp.iconst (nI 1) k_234_13 (by decide) ?_
  refine Zp.goto k_234_14 ?_
  exact Zp.iret _ k_234_18 vr_234 rfl hq
theorem c_length (hi : i < 9) (hq : Q (some (.int (nI (zslen.getD i 0)))) I L) : Zm G 231 [.ref (1000001 + i)] I L Q := by
  refine Zm.go [some (.ref _)] vl_231 rfl ?_
  refine Zp.aload_n k_231_0 rfl ?_
  refine Zp.getSV (k0 := 7006) hi k_231_1 (by decide +kernel) ?_
  refine Zp.alenT hi k_231_4 ?_
  refine Zp.aload_n k_231_5 rfl ?_
  refine Zp.callT0 hi vs_233 rfl k_231_6 (Nat.le_of_ble_eq_true rfl) (Nat.le_of_ble_eq_true rfl) (c_coder hi ⟨_, rfl, ?_⟩)
  refine Zp.ishr k_231_9 ?_
  rw [(sl_at i hi).1]
  exact Zp.iret _ k_231_10 vr_231 rfl hq
theorem c_checkIndexP {n : Nat} (hj : j < n) (hn : n < 2 ^ 31) (hq : Q (some (.int (nI j))) I L) : Zm G 237 [.int (nI j), .int (nI n), .ref 1000300] I L Q := by
  refine Zm.go [some (.int _), some (.int _), some (.ref _)] vl_237 rfl ?_
  refine Zp.iload_n k_237_0 rfl ?_
  refine Zp.if_ltN k_237_1 (by omega) ?_
  refine Zp.iload_n k_237_4 rfl ?_
  refine Zp.iload_n k_237_5 rfl ?_
  refine Zp.icmp_ltN k_237_6 (by omega) (by omega) (fun _ => ?_) (fun c => absurd hj c)
  refine Zp.iload_n k_237_16 rfl ?_
  exact Zp.iret _ k_237_17 vr_237 rfl hq
theorem c_checkIndexS {n : Nat} (hj : j < n) (hn : n < 2 ^ 31) (hq : Q none I L) : Zm G 235 [.int (nI j), .int (nI n)] I L Q := by
  refine Zm.go [some (.int _), some (.int _)] vl_235 rfl ?_
  refine Zp.iload_n k_235_0 rfl ?_
  refine Zp.iload_n k_235_1 rfl ?_
  refine Zp.getSI (k0 := 2181) k_235_2 (by decide +kernel) ?_
  refine Zp.calls3I vs_237 k_235_5 (Nat.le_of_ble_eq_true rfl) (Nat.le_of_ble_eq_true rfl) (c_checkIndexP hj hn ⟨_, rfl, ?_⟩)
  refine Zp.pop k_235_8 rfl ?_
  exact Zp.vret k_235_9 vr_235 hq
theorem c_charAtL (hi : i < 9) (hj : j < zslen.getD i 0) (hq : Q (some (.int (nI (sb_ i j)))) I L) : Zm G 236 [.ref (1000101 + i), .int (nI j)] I L Q := by
  have hl := (sl_at i hi).2.1
  obtain ⟨s1, s2, s3⟩ := sbN_at i hi j hj
  refine Zm.go [some (.ref _), some (.int _)] vl_236 rfl ?_
  refine Zp.iload_n k_236_0 rfl ?_
  refine Zp.aload_n k_236_1 rfl ?_
  refine Zp.alenT hi k_236_2 ?_
  refine Zp.calls2V vs_235 k_236_3 (Nat.le_of_ble_eq_true rfl) (Nat.le_of_ble_eq_true rfl) (c_checkIndexS hj (by omega) ⟨rfl, ?_⟩)
  refine Zp.aload_n k_236_6 rfl ?_
  refine Zp.iload_n k_236_7 rfl ?_
  refine Zp.baldT hi k_236_8 (vp_in_nI hj (by omega)) ?_
  rw [nI_clamp (by omega)]
  refine Zp.sipush (nI 255) k_236_9 (by decide) ?_
  refine Zp.iand k_236_12 ?_
  refine Zp.i2c k_236_13 ?_
  rw [s1]
  exact Zp.iret _ k_236_14 vr_236 s2 hq
theorem c_charAt (hi : i < 9) (hj : j < zslen.getD i 0) (hq : Q (some (.int (nI (sb_ i j)))) I L) : Zm G 232 [.ref (1000001 + i), .int (nI j)] I L Q := by
  obtain ⟨s1, s2, s3⟩ := sbN_at i hi j hj
  refine Zm.go [some (.ref _), some (.int _)] vl_232 rfl ?_
  refine Zp.aload_n k_232_0 rfl ?_
  refine Zp.callT0 hi vs_234 rfl k_232_1 (Nat.le_of_ble_eq_true rfl) (Nat.le_of_ble_eq_true rfl) (c_isLatin1 hi ⟨_, rfl, ?_⟩)
  refine Zp.if_eqN k_232_4 (by omega) (fun c => absurd c (by decide)) (fun _ => ?_)
  refine Zp.aload_n k_232_7 rfl ?_
  refine Zp.getSV (k0 := 7006) hi k_232_8 (by decide +kernel) ?_
  refine Zp.iload_n k_232_11 rfl ?_
  refine Zp.calls2I vs_236 k_232_12 (Nat.le_of_ble_eq_true rfl) (Nat.le_of_ble_eq_true rfl) (c_charAtL hi hj ⟨_, rfl, ?_⟩)
  exact Zp.iret _ k_232_15 vr_232 s2 hq
end TEXTJ
/-! tokens -/
abbrev zTp : Type := Nat × (Nat → Nat)
/-- the end of a run -/
def rn (T : zTp) (P : Nat → Bool) : Nat → Nat → Nat
  | 0, p => p
  | k + 1, p => if p < T.1 ∧ P (T.2 p) = true then rn T P k (p + 1) else p
theorem rn_le (T : zTp) (P : Nat → Bool) : ∀ k p, p ≤ rn T P k p ∧ (p ≤ T.1 → rn T P k p ≤ T.1)
  | 0, p => ⟨Nat.le_refl _, fun h => h⟩
  | k + 1, p => by
    have ih := rn_le T P k (p + 1)
    unfold rn
    split
    · rename_i h
      exact ⟨by omega, fun _ => ih.2 (by omega)⟩
    · exact ⟨Nat.le_refl _, fun h => h⟩
theorem rn_all (T : zTp) (P : Nat → Bool) : ∀ k p i, p ≤ i → i < rn T P k p → P (T.2 i) = true ∧ i < T.1
  | 0, p, i, h1, h2 => by
    have h3 : i < p := h2
    omega
  | k + 1, p, i, h1, h2 => by
    unfold rn at h2
    split at h2
    · rename_i h
      rcases (by omega : i = p ∨ p + 1 ≤ i) with e | e
      · subst e; exact ⟨h.2, h.1⟩
      · exact rn_all T P k (p + 1) i e h2
    · omega
theorem rn_end (T : zTp) (P : Nat → Bool) : ∀ k p, T.1 - p ≤ k → ¬ (rn T P k p < T.1 ∧ P (T.2 (rn T P k p)) = true)
  | 0, p, h => fun z => by
    have h3 : p < T.1 := z.1
    omega
  | k + 1, p, h => by
    unfold rn
    split
    · exact rn_end T P k (p + 1) (by omega)
    · rename_i h2; exact h2
def isBl (b : Nat) : Bool := b == 32
def isNm (b : Nat) : Bool := decide (97 ≤ b) && decide (b ≤ 122)
def isDg (b : Nat) : Bool := decide (48 ≤ b) && decide (b ≤ 57)
theorem isBl_i {b : Nat} : isBl b = true ↔ b = 32 := by unfold isBl; exact beq_iff_eq
theorem isNm_i {b : Nat} : isNm b = true ↔ 97 ≤ b ∧ b ≤ 122 := by unfold isNm; simp
theorem isDg_i {b : Nat} : isDg b = true ↔ 48 ≤ b ∧ b ≤ 57 := by unfold isDg; simp
def tks (T : zTp) (p : Nat) : Nat := rn T isBl T.1 p
/-- the token from p on: its kind (0 a name, 1 a number, 2 a semicolon, 3 the end, 4 none), its start, its end -/
def tok (T : zTp) (p : Nat) : Nat × Nat × Nat :=
  if T.1 ≤ tks T p then (3, tks T p, tks T p)
  else if T.2 (tks T p) = 59 then (2, tks T p, tks T p + 1)
  else if 97 ≤ T.2 (tks T p) then (if 0 < rn T isNm T.1 (tks T p) - tks T p then 0 else 4, tks T p, rn T isNm T.1 (tks T p))
  else (if 0 < rn T isDg T.1 (tks T p) - tks T p ∧ rn T isDg T.1 (tks T p) - tks T p ≤ 2 then 1 else 4, tks T p, rn T isDg T.1 (tks T p))
theorem tok_ok (T : zTp) {p : Nat} (hp : p ≤ T.1) : (tok T p).2.1 = tks T p ∧ p ≤ (tok T p).2.1 ∧ (tok T p).2.1 ≤ T.1 ∧ (tok T p).2.1 ≤ (tok T p).2.2 ∧ (tok T p).2.2 ≤ T.1 ∧ (tok T p).1 ≤ 4 ∧ ((tok T p).1 = 3 → (tok T p).2.1 = T.1) ∧ ((tok T p).1 ≠ 3 → (tok T p).2.1 < T.1) ∧ ((tok T p).1 < 3 → (tok T p).2.1 < (tok T p).2.2) := by
  have h1 := rn_le T isBl T.1 p
  have h2 := h1.2 hp
  have h3 := rn_le T isNm T.1 (tks T p)
  have h4 := rn_le T isDg T.1 (tks T p)
  have e : rn T isBl T.1 p = tks T p := rfl
  rw [e] at h1 h2
  have h5 := h3.2 h2
  have h6 := h4.2 h2
  unfold tok
  split
  · exact ⟨rfl, h1.1, h2, Nat.le_refl _, h2, (show 3 ≤ 4 by decide), fun _ => by show tks T p = T.1; omega, fun z => absurd rfl z, fun z => absurd z (show ¬ 3 < 3 by decide)⟩
  · split
    · exact ⟨rfl, h1.1, h2, Nat.le_succ _, by show tks T p + 1 ≤ T.1; omega, (show 2 ≤ 4 by decide), fun z => absurd z (show ¬ 2 = 3 by decide), fun _ => by show tks T p < T.1; omega, fun _ => by show tks T p < tks T p + 1; omega⟩
    · split
      · refine ⟨rfl, h1.1, h2, h3.1, h5, ?_, ?_, fun _ => by show tks T p < T.1; omega, ?_⟩
        · show (if _ then 0 else 4) ≤ 4; split <;> omega
        · show (if _ then 0 else 4) = 3 → _; split <;> omega
        · show (if _ then 0 else 4) < 3 → tks T p < rn T isNm T.1 (tks T p); split <;> omega
      · refine ⟨rfl, h1.1, h2, h4.1, h6, ?_, ?_, fun _ => by show tks T p < T.1; omega, ?_⟩
        · show (if _ then 1 else 4) ≤ 4; split <;> omega
        · show (if _ then 1 else 4) = 3 → _; split <;> omega
        · show (if _ then 1 else 4) < 3 → tks T p < rn T isDg T.1 (tks T p); split <;> omega
/-- the number that stands from s on, of so many figures -/
def nv (T : zTp) (s : Nat) : Nat → Nat
  | 0 => 0
  | j + 1 => 10 * nv T s j + (T.2 (s + j) - 48)
/-- the class's tape holds T -/
def Tp (I : zI) (T : zTp) : Prop := I 29 1 = nI T.1 ∧ ∀ i, i < T.1 → I 30 i = nI (T.2 i)
def To (T : zTp) : Prop := T.1 ≤ 160 ∧ ∀ i, i < T.1 → T.2 i < 128
section TAPE
variable {G : zG} {I : zI} {L : zJ} {Q : zP} {T : zTp} {p s e i : Nat}
theorem c_readToken (tp : Tp I T) (to : To T) (hp : p ≤ T.1) (h3 : I 29 3 = nI p) (hq : ∀ I', I' 29 2 = nI (tok T p).2.1 → I' 29 3 = nI (tok T p).2.2 → (∀ j, j ≠ 2 → j ≠ 3 → I' 29 j = I 29 j) → (∀ q, q ≠ 29 → I' q = I q) → Q (some (.int (nI (tok T p).1))) I' L) : Zm G 70 [.ref 29] I L Q := by
  obtain ⟨t1, t2⟩ := id tp
  obtain ⟨o1, o2⟩ := id to
  have hs := (rn_le T isBl T.1 p).2 hp
  have run : ∀ (P : Nat → Bool) (w lo hi : Nat), lo < 200 → hi < 200 → w < 2 → (∀ b, P b = true ↔ lo ≤ b ∧ b ≤ hi) →
      (∀ I2, I2 29 3 = nI (rn T P T.1 (tks T p)) → I2 29 2 = nI (tks T p) → (∀ j, j ≠ 2 → j ≠ 3 → I2 29 j = I 29 j) → (∀ q, q ≠ 29 → I2 q = I q) → Zp G 70 179 [some (.ref 29), some (.int (nI w)), some (.int (nI lo)), some (.int (nI hi)), none] [] I2 L Q) →
      ∀ k q (I1 : zI), rn T P k q = rn T P T.1 (tks T p) → T.1 - q ≤ k → q ≤ T.1 → I1 29 3 = nI q → I1 29 2 = nI (tks T p) → (∀ j, j ≠ 2 → j ≠ 3 → I1 29 j = I 29 j) → (∀ q, q ≠ 29 → I1 q = I q) → Zp G 70 129 [some (.ref 29), some (.int (nI w)), some (.int (nI lo)), some (.int (nI hi)), none] [] I1 L Q := by
    intro P w lo hi hlo hhi hw hP hend k
    induction k with
    | zero =>
      intro q I1 hr hk hqT g3 g2 gj gq
      have e : q = T.1 := by omega
      subst e
      have g1 : I1 29 1 = nI T.1 := (gj 1 (by decide) (by decide)).trans t1
      refine Zp.aload_n k_70_129 rfl ?_
      refine Zp.getV k_70_130 rfl (zlt rfl) m_29 g3 ?_
      refine Zp.aload_n k_70_133 rfl ?_
      refine Zp.getV k_70_134 rfl (zlt rfl) m_29 g1 ?_
      refine Zp.icmp_geN k_70_137 (by omega) (by omega) (fun c_137 => ?_) (fun c_137 => absurd c_137 (by omega))
      exact hend I1 (g3.trans (congrArg nI hr)) g2 gj gq
    | succ k ih =>
      intro q I1 hr hk hqT g3 g2 gj gq
      have g1 : I1 29 1 = nI T.1 := (gj 1 (by decide) (by decide)).trans t1
      by_cases w1 : q < T.1
      · have gb : I1 30 q = nI (T.2 q) := by rw [gq 30 (by decide)]; exact t2 q w1
        have hb := o2 q w1
        have hPq := hP (T.2 q)
        have hr2 : rn T P (k + 1) q = if q < T.1 ∧ P (T.2 q) = true then rn T P k (q + 1) else q := rfl
        refine Zp.aload_n k_70_129 rfl ?_
        refine Zp.getV k_70_130 rfl (zlt rfl) m_29 g3 ?_
        refine Zp.aload_n k_70_133 rfl ?_
        refine Zp.getV k_70_134 rfl (zlt rfl) m_29 g1 ?_
        refine Zp.icmp_geN k_70_137 (by omega) (by omega) (fun c_137 => absurd c_137 (by omega)) (fun c_137 => ?_)
        refine Zp.aload_n k_70_140 rfl ?_
        refine Zp.getR k_70_141 rfl (zlt rfl) m_29 r_29_0 ?_
        refine Zp.aload_n k_70_144 rfl ?_
        refine Zp.getV k_70_145 rfl (zlt rfl) m_29 g3 ?_
        refine Zp.bald _ k_70_148 m_30 rfl (by omega) (zlt rfl) gb ?_
        refine Zp.iload_n k_70_149 rfl ?_
        refine Zp.icmp_ltN k_70_150 (by omega) (by omega) (fun c_150 => ?_) (fun c_150 => ?_)
        · rw [if_neg (fun z => by have := hPq.mp z.2; omega)] at hr2
          exact hend I1 (g3.trans (congrArg nI (hr2.symm.trans hr))) g2 gj gq
        · refine Zp.aload_n k_70_153 rfl ?_
          refine Zp.getR k_70_154 rfl (zlt rfl) m_29 r_29_0 ?_
          refine Zp.aload_n k_70_157 rfl ?_
          refine Zp.getV k_70_158 rfl (zlt rfl) m_29 g3 ?_
          refine Zp.bald _ k_70_161 m_30 rfl (by omega) (zlt rfl) gb ?_
          refine Zp.iload_n k_70_162 rfl ?_
          refine Zp.icmp_gtN k_70_163 (by omega) (by omega) (fun c_163 => ?_) (fun c_163 => ?_)
          · rw [if_neg (fun z => by have := hPq.mp z.2; omega)] at hr2
            exact hend I1 (g3.trans (congrArg nI (hr2.symm.trans hr))) g2 gj gq
          · refine Zp.aload_n k_70_166 rfl ?_
            refine Zp.dup k_70_167 rfl ?_
            refine Zp.getV k_70_168 rfl (zlt rfl) m_29 g3 ?_
            refine Zp.iconst (nI 1) k_70_171 (by decide) ?_
            refine Zp.iaddN k_70_172 ?_
            refine Zp.putI k_70_173 rfl (zlt rfl) m_29 ?_
            refine Zp.goto k_70_176 ?_
            rw [if_pos ⟨w1, hPq.mpr ⟨by omega, by omega⟩⟩] at hr2
            exact ih (q + 1) _ (hr2.symm.trans hr) (by omega) (by omega) (zpu_s _ _ _ _) (by rw [zpu_k _ _ _ (by decide)]; exact g2) (fun j a b => by rw [zpu_k _ _ _ b]; exact gj j a b) (fun r a => by rw [zpu_q _ _ _ a]; exact gq r a)
      · have hr2 : rn T P (k + 1) q = if q < T.1 ∧ P (T.2 q) = true then rn T P k (q + 1) else q := rfl
        rw [if_neg (fun z => w1 z.1)] at hr2
        refine Zp.aload_n k_70_129 rfl ?_
        refine Zp.getV k_70_130 rfl (zlt rfl) m_29 g3 ?_
        refine Zp.aload_n k_70_133 rfl ?_
        refine Zp.getV k_70_134 rfl (zlt rfl) m_29 g1 ?_
        refine Zp.icmp_geN k_70_137 (by omega) (by omega) (fun c_137 => ?_) (fun c_137 => absurd c_137 (by omega))
        exact hend I1 (g3.trans (congrArg nI (hr2.symm.trans hr))) g2 gj gq
  have rest : ∀ I1, I1 29 3 = nI (tks T p) → (∀ j, j ≠ 2 → j ≠ 3 → I1 29 j = I 29 j) → (∀ q, q ≠ 29 → I1 q = I q) → Zp G 70 38 [some (.ref 29), none, none, none, none] [] I1 L Q := by
    intro I1 g3 gj gq
    have hs' : tks T p ≤ T.1 := hs
    have g1 : I1 29 1 = nI T.1 := (gj 1 (by decide) (by decide)).trans t1
    by_cases w1 : T.1 ≤ tks T p
    · have ht : tok T p = (3, tks T p, tks T p) := if_pos w1
      have hq1 := fun I' => hq I'
      rw [ht] at hq1
      refine Zp.aload_n k_70_38 rfl ?_
      refine Zp.aload_n k_70_39 rfl ?_
      refine Zp.getV k_70_40 rfl (zlt rfl) m_29 (by first | exact g3 | exact zku_r (by decide) g3) ?_
      refine Zp.putI k_70_43 rfl (zlt rfl) m_29 ?_
      refine Zp.aload_n k_70_46 rfl ?_
      refine Zp.getV k_70_47 rfl (zlt rfl) m_29 (by first | exact g3 | exact zku_r (by decide) g3) ?_
      refine Zp.aload_n k_70_50 rfl ?_
      refine Zp.getV k_70_51 rfl (zlt rfl) m_29 (by first | exact g1 | exact zku_r (by decide) g1) ?_
      refine Zp.icmp_ltN k_70_54 (by omega) (by omega) (fun c_54 => absurd c_54 (by omega)) (fun c_54 => ?_)
      refine Zp.iconst (nI 3) k_70_57 (by decide) ?_
      refine Zp.iret _ k_70_58 vr_70 rfl ?_
      exact hq1 _ (zpu_s _ _ _ _) (by rw [zpu_k _ _ _ (by decide)]; exact g3) (fun j a b => by rw [zpu_k _ _ _ a]; exact gj j a b) (fun q h => by rw [zpu_q _ _ _ h]; exact gq q h)
    · have gb : I1 30 (tks T p) = nI (T.2 (tks T p)) := by rw [gq 30 (by decide)]; exact t2 _ (by omega)
      have hb := o2 (tks T p) (by omega)
      have ht : tok T p = if T.2 (tks T p) = 59 then (2, tks T p, tks T p + 1) else if 97 ≤ T.2 (tks T p) then (if 0 < rn T isNm T.1 (tks T p) - tks T p then 0 else 4, tks T p, rn T isNm T.1 (tks T p)) else (if 0 < rn T isDg T.1 (tks T p) - tks T p ∧ rn T isDg T.1 (tks T p) - tks T p ≤ 2 then 1 else 4, tks T p, rn T isDg T.1 (tks T p)) := if_neg w1
      have rl1 := rn_le T isNm T.1 (tks T p)
      have rl2 := rn_le T isDg T.1 (tks T p)
      have rl3 := rl1.2 hs'
      have rl4 := rl2.2 hs'
      have fin1 : ¬ T.2 (tks T p) = 59 → 97 ≤ T.2 (tks T p) → ∀ I2, I2 29 3 = nI (rn T isNm T.1 (tks T p)) → I2 29 2 = nI (tks T p) → (∀ j, j ≠ 2 → j ≠ 3 → I2 29 j = I 29 j) → (∀ q, q ≠ 29 → I2 q = I q) → Zp G 70 179 [some (.ref 29), some (.int (nI 1)), some (.int (nI 97)), some (.int (nI 122)), none] [] I2 L Q := by
        intro z1 z2 I2 f3 f2 fj fq
        rw [if_neg z1, if_pos z2] at ht
        have hq1 := hq I2
        rw [ht] at hq1
        refine Zp.aload_n k_70_179 rfl ?_
        refine Zp.getV k_70_180 rfl (zlt rfl) m_29 f3 ?_
        refine Zp.aload_n k_70_183 rfl ?_
        refine Zp.getV k_70_184 rfl (zlt rfl) m_29 f2 ?_
        refine Zp.isubN k_70_187 (by omega) ?_
        refine Zp.istore [some (.ref _), some (.int _), some (.int _), some (.int _), some (.int _)] k_70_188 (Nat.lt_of_lt_of_eq (zlt rfl : 4 < 5) vl_70.symm) rfl ?_
        refine Zp.iload_n k_70_190 rfl ?_
        refine Zp.if_eqN k_70_191 (by omega) (fun c => absurd c (by decide)) (fun _ => ?_)
        refine Zp.iload k_70_194 rfl ?_
        refine Zp.if_leN k_70_196 (by omega) (fun c_196 => ?_) (fun c_196 => ?_)
        · refine Zp.iconst (nI 4) k_70_203 (by decide) ?_
          refine Zp.iret _ k_70_204 vr_70 rfl ?_
          have hq2 := hq1 f2 f3 fj fq
          first | (rw [if_pos (by omega)] at hq2; exact hq2) | (rw [if_neg (by omega)] at hq2; exact hq2)
        · refine Zp.iconst (nI 0) k_70_199 (by decide) ?_
          refine Zp.goto k_70_200 ?_
          refine Zp.iret _ k_70_204 vr_70 rfl ?_
          have hq2 := hq1 f2 f3 fj fq
          first | (rw [if_pos (by omega)] at hq2; exact hq2) | (rw [if_neg (by omega)] at hq2; exact hq2)
      have fin2 : ¬ T.2 (tks T p) = 59 → ¬ 97 ≤ T.2 (tks T p) → ∀ I2, I2 29 3 = nI (rn T isDg T.1 (tks T p)) → I2 29 2 = nI (tks T p) → (∀ j, j ≠ 2 → j ≠ 3 → I2 29 j = I 29 j) → (∀ q, q ≠ 29 → I2 q = I q) → Zp G 70 179 [some (.ref 29), some (.int (nI 0)), some (.int (nI 48)), some (.int (nI 57)), none] [] I2 L Q := by
        intro z1 z2 I2 f3 f2 fj fq
        rw [if_neg z1, if_neg z2] at ht
        have hq1 := hq I2
        rw [ht] at hq1
        refine Zp.aload_n k_70_179 rfl ?_
        refine Zp.getV k_70_180 rfl (zlt rfl) m_29 f3 ?_
        refine Zp.aload_n k_70_183 rfl ?_
        refine Zp.getV k_70_184 rfl (zlt rfl) m_29 f2 ?_
        refine Zp.isubN k_70_187 (by omega) ?_
        refine Zp.istore [some (.ref _), some (.int _), some (.int _), some (.int _), some (.int _)] k_70_188 (Nat.lt_of_lt_of_eq (zlt rfl : 4 < 5) vl_70.symm) rfl ?_
        refine Zp.iload_n k_70_190 rfl ?_
        refine Zp.if_eqN k_70_191 (by omega) (fun _ => ?_) (fun c => absurd c (by decide))
        refine Zp.iload k_70_205 rfl ?_
        refine Zp.if_leN k_70_207 (by omega) (fun c_207 => ?_) (fun c_207 => ?_)
        · refine Zp.iconst (nI 4) k_70_220 (by decide) ?_
          refine Zp.iret _ k_70_221 vr_70 rfl ?_
          have hq2 := hq1 f2 f3 fj fq
          first | (rw [if_pos ⟨by omega, by omega⟩] at hq2; exact hq2) | (rw [if_neg (by omega)] at hq2; exact hq2)
        · refine Zp.iload k_70_210 rfl ?_
          refine Zp.iconst (nI 2) k_70_212 (by decide) ?_
          refine Zp.icmp_gtN k_70_213 (by omega) (by omega) (fun c_213 => ?_) (fun c_213 => ?_)
          · refine Zp.iconst (nI 4) k_70_220 (by decide) ?_
            refine Zp.iret _ k_70_221 vr_70 rfl ?_
            have hq2 := hq1 f2 f3 fj fq
            first | (rw [if_pos ⟨by omega, by omega⟩] at hq2; exact hq2) | (rw [if_neg (by omega)] at hq2; exact hq2)
          · refine Zp.iconst (nI 1) k_70_216 (by decide) ?_
            refine Zp.goto k_70_217 ?_
            refine Zp.iret _ k_70_221 vr_70 rfl ?_
            have hq2 := hq1 f2 f3 fj fq
            first | (rw [if_pos ⟨by omega, by omega⟩] at hq2; exact hq2) | (rw [if_neg (by omega)] at hq2; exact hq2)
      refine Zp.aload_n k_70_38 rfl ?_
      refine Zp.aload_n k_70_39 rfl ?_
      refine Zp.getV k_70_40 rfl (zlt rfl) m_29 (by first | exact g3 | exact zku_r (by decide) g3) ?_
      refine Zp.putI k_70_43 rfl (zlt rfl) m_29 ?_
      refine Zp.aload_n k_70_46 rfl ?_
      refine Zp.getV k_70_47 rfl (zlt rfl) m_29 (by first | exact g3 | exact zku_r (by decide) g3) ?_
      refine Zp.aload_n k_70_50 rfl ?_
      refine Zp.getV k_70_51 rfl (zlt rfl) m_29 (by first | exact g1 | exact zku_r (by decide) g1) ?_
      refine Zp.icmp_ltN k_70_54 (by omega) (by omega) (fun c_54 => ?_) (fun c_54 => absurd c_54 (by omega))
      refine Zp.aload_n k_70_59 rfl ?_
      refine Zp.getR k_70_60 rfl (zlt rfl) m_29 r_29_0 ?_
      refine Zp.aload_n k_70_63 rfl ?_
      refine Zp.getV k_70_64 rfl (zlt rfl) m_29 (by first | exact g3 | exact zku_r (by decide) g3) ?_
      refine Zp.bald _ k_70_67 m_30 rfl (by omega) (zlt rfl) ((congrFun (zpu_q I1 _ _ (by decide)) _).trans gb) ?_
      refine Zp.bipush (nI 59) k_70_68 (by decide) ?_
      refine Zp.icmp_neN k_70_70 (by omega) (by omega) (fun c_70 => ?_) (fun c_70 => ?_)
      · refine Zp.aload_n k_70_85 rfl ?_
        refine Zp.getR k_70_86 rfl (zlt rfl) m_29 r_29_0 ?_
        refine Zp.aload_n k_70_89 rfl ?_
        refine Zp.getV k_70_90 rfl (zlt rfl) m_29 (by first | exact g3 | exact zku_r (by decide) g3) ?_
        refine Zp.bald _ k_70_93 m_30 rfl (by omega) (zlt rfl) ((congrFun (zpu_q I1 _ _ (by decide)) _).trans gb) ?_
        refine Zp.bipush (nI 97) k_70_94 (by decide) ?_
        refine Zp.icmp_ltN k_70_96 (by omega) (by omega) (fun c_96 => ?_) (fun c_96 => ?_)
        · refine Zp.iconst (nI 0) k_70_103 (by decide) ?_
          refine Zp.istore_n [some (.ref _), some (.int _), none, none, none] k_70_104 (Nat.lt_of_lt_of_eq (zlt rfl : 1 < 5) vl_70.symm) rfl ?_
          refine Zp.iload_n k_70_105 rfl ?_
          refine Zp.if_eqN k_70_106 (by omega) (fun _ => ?_) (fun c => absurd c (by decide))
          refine Zp.bipush (nI 48) k_70_114 (by decide) ?_
          refine Zp.istore_n [some (.ref _), some (.int _), some (.int _), none, none] k_70_116 (Nat.lt_of_lt_of_eq (zlt rfl : 2 < 5) vl_70.symm) rfl ?_
          refine Zp.iload_n k_70_117 rfl ?_
          refine Zp.if_eqN k_70_118 (by omega) (fun _ => ?_) (fun c => absurd c (by decide))
          refine Zp.bipush (nI 57) k_70_126 (by decide) ?_
          refine Zp.istore_n [some (.ref _), some (.int _), some (.int _), some (.int _), none] k_70_128 (Nat.lt_of_lt_of_eq (zlt rfl : 3 < 5) vl_70.symm) rfl ?_
          first
            | exact run isNm 1 97 122 (by decide) (by decide) (by decide) (fun b => isNm_i) (fin1 c_70 (by omega)) T.1 (tks T p) _ rfl (by omega) hs' (by rw [zpu_k _ _ _ (by decide)]; exact g3) (zpu_s _ _ _ _) (fun j a b => by rw [zpu_k _ _ _ a]; exact gj j a b) (fun q h => by rw [zpu_q _ _ _ h]; exact gq q h)
            | exact run isDg 0 48 57 (by decide) (by decide) (by decide) (fun b => isDg_i) (fin2 c_70 (by omega)) T.1 (tks T p) _ rfl (by omega) hs' (by rw [zpu_k _ _ _ (by decide)]; exact g3) (zpu_s _ _ _ _) (fun j a b => by rw [zpu_k _ _ _ a]; exact gj j a b) (fun q h => by rw [zpu_q _ _ _ h]; exact gq q h)
        · refine Zp.iconst (nI 1) k_70_99 (by decide) ?_
          refine Zp.goto k_70_100 ?_
          refine Zp.istore_n [some (.ref _), some (.int _), none, none, none] k_70_104 (Nat.lt_of_lt_of_eq (zlt rfl : 1 < 5) vl_70.symm) rfl ?_
          refine Zp.iload_n k_70_105 rfl ?_
          refine Zp.if_eqN k_70_106 (by omega) (fun c => absurd c (by decide)) (fun _ => ?_)
          refine Zp.bipush (nI 97) k_70_109 (by decide) ?_
          refine Zp.goto k_70_111 ?_
          refine Zp.istore_n [some (.ref _), some (.int _), some (.int _), none, none] k_70_116 (Nat.lt_of_lt_of_eq (zlt rfl : 2 < 5) vl_70.symm) rfl ?_
          refine Zp.iload_n k_70_117 rfl ?_
          refine Zp.if_eqN k_70_118 (by omega) (fun c => absurd c (by decide)) (fun _ => ?_)
          refine Zp.bipush (nI 122) k_70_121 (by decide) ?_
          refine Zp.goto k_70_123 ?_
          refine Zp.istore_n [some (.ref _), some (.int _), some (.int _), some (.int _), none] k_70_128 (Nat.lt_of_lt_of_eq (zlt rfl : 3 < 5) vl_70.symm) rfl ?_
          first
            | exact run isNm 1 97 122 (by decide) (by decide) (by decide) (fun b => isNm_i) (fin1 c_70 (by omega)) T.1 (tks T p) _ rfl (by omega) hs' (by rw [zpu_k _ _ _ (by decide)]; exact g3) (zpu_s _ _ _ _) (fun j a b => by rw [zpu_k _ _ _ a]; exact gj j a b) (fun q h => by rw [zpu_q _ _ _ h]; exact gq q h)
            | exact run isDg 0 48 57 (by decide) (by decide) (by decide) (fun b => isDg_i) (fin2 c_70 (by omega)) T.1 (tks T p) _ rfl (by omega) hs' (by rw [zpu_k _ _ _ (by decide)]; exact g3) (zpu_s _ _ _ _) (fun j a b => by rw [zpu_k _ _ _ a]; exact gj j a b) (fun q h => by rw [zpu_q _ _ _ h]; exact gq q h)
      · refine Zp.aload_n k_70_73 rfl ?_
        refine Zp.dup k_70_74 rfl ?_
        refine Zp.getV k_70_75 rfl (zlt rfl) m_29 (by first | exact g3 | exact zku_r (by decide) g3) ?_
        refine Zp.iconst (nI 1) k_70_78 (by decide) ?_
        refine Zp.iaddN k_70_79 ?_
        refine Zp.putI k_70_80 rfl (zlt rfl) m_29 ?_
        refine Zp.iconst (nI 2) k_70_83 (by decide) ?_
        refine Zp.iret _ k_70_84 vr_70 rfl ?_
        rw [if_pos c_70] at ht
        have hq1 := fun I' => hq I'
        rw [ht] at hq1
        exact hq1 _ (by rw [zpu_k _ _ _ (by decide), zpu_s]) (zpu_s _ _ _ _) (fun j a b => by rw [zpu_k _ _ _ b, zpu_k _ _ _ a]; exact gj j a b) (fun q h => by rw [zpu_q _ _ _ h, zpu_q _ _ _ h]; exact gq q h)
  have skip : ∀ k q (I1 : zI), rn T isBl k q = tks T p → T.1 - q ≤ k → q ≤ T.1 → I1 29 3 = nI q → (∀ j, j ≠ 2 → j ≠ 3 → I1 29 j = I 29 j) → (∀ q, q ≠ 29 → I1 q = I q) → Zp G 70 0 [some (.ref 29), none, none, none, none] [] I1 L Q := by
    intro k
    induction k with
    | zero =>
      intro q I1 hr hk hqT g3 gj gq
      have e : q = T.1 := by omega
      subst e
      have g1 : I1 29 1 = nI T.1 := (gj 1 (by decide) (by decide)).trans t1
      refine Zp.aload_n k_70_0 rfl ?_
      refine Zp.getV k_70_1 rfl (zlt rfl) m_29 g3 ?_
      refine Zp.aload_n k_70_4 rfl ?_
      refine Zp.getV k_70_5 rfl (zlt rfl) m_29 g1 ?_
      refine Zp.icmp_geN k_70_8 (by omega) (by omega) (fun c_8 => ?_) (fun c_8 => absurd c_8 (by omega))
      exact rest I1 (g3.trans (congrArg nI hr)) gj gq
    | succ k ih =>
      intro q I1 hr hk hqT g3 gj gq
      have g1 : I1 29 1 = nI T.1 := (gj 1 (by decide) (by decide)).trans t1
      have hr2 : rn T isBl (k + 1) q = if q < T.1 ∧ isBl (T.2 q) = true then rn T isBl k (q + 1) else q := rfl
      by_cases w1 : q < T.1
      · have gb : I1 30 q = nI (T.2 q) := by rw [gq 30 (by decide)]; exact t2 q w1
        have hb := o2 q w1
        have hPq := isBl_i (b := T.2 q)
        refine Zp.aload_n k_70_0 rfl ?_
        refine Zp.getV k_70_1 rfl (zlt rfl) m_29 g3 ?_
        refine Zp.aload_n k_70_4 rfl ?_
        refine Zp.getV k_70_5 rfl (zlt rfl) m_29 g1 ?_
        refine Zp.icmp_geN k_70_8 (by omega) (by omega) (fun c_8 => absurd c_8 (by omega)) (fun c_8 => ?_)
        refine Zp.aload_n k_70_11 rfl ?_
        refine Zp.getR k_70_12 rfl (zlt rfl) m_29 r_29_0 ?_
        refine Zp.aload_n k_70_15 rfl ?_
        refine Zp.getV k_70_16 rfl (zlt rfl) m_29 g3 ?_
        refine Zp.bald _ k_70_19 m_30 rfl (by omega) (zlt rfl) gb ?_
        refine Zp.bipush (nI 32) k_70_20 (by decide) ?_
        refine Zp.icmp_neN k_70_22 (by omega) (by omega) (fun c_22 => ?_) (fun c_22 => ?_)
        · rw [if_neg (fun z => by have := hPq.mp z.2; omega)] at hr2
          exact rest I1 (g3.trans (congrArg nI (hr2.symm.trans hr))) gj gq
        · refine Zp.aload_n k_70_25 rfl ?_
          refine Zp.dup k_70_26 rfl ?_
          refine Zp.getV k_70_27 rfl (zlt rfl) m_29 g3 ?_
          refine Zp.iconst (nI 1) k_70_30 (by decide) ?_
          refine Zp.iaddN k_70_31 ?_
          refine Zp.putI k_70_32 rfl (zlt rfl) m_29 ?_
          refine Zp.goto k_70_35 ?_
          rw [if_pos ⟨w1, hPq.mpr (by omega)⟩] at hr2
          exact ih (q + 1) _ (hr2.symm.trans hr) (by omega) (by omega) (zpu_s _ _ _ _) (fun j a b => by rw [zpu_k _ _ _ b]; exact gj j a b) (fun r a => by rw [zpu_q _ _ _ a]; exact gq r a)
      · rw [if_neg (fun z => w1 z.1)] at hr2
        refine Zp.aload_n k_70_0 rfl ?_
        refine Zp.getV k_70_1 rfl (zlt rfl) m_29 g3 ?_
        refine Zp.aload_n k_70_4 rfl ?_
        refine Zp.getV k_70_5 rfl (zlt rfl) m_29 g1 ?_
        refine Zp.icmp_geN k_70_8 (by omega) (by omega) (fun c_8 => ?_) (fun c_8 => absurd c_8 (by omega))
        exact rest I1 (g3.trans (congrArg nI (hr2.symm.trans hr))) gj gq
  refine Zm.go [some (.ref _), none, none, none, none] vl_70 rfl ?_
  exact skip T.1 p I rfl (by omega) hp h3 (fun _ _ _ => rfl) (fun _ _ => rfl)
end TAPE
