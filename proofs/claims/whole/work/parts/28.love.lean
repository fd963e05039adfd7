/-! LONG NUMBERS, THE GREATEST COMMON DIVISOR -/
theorem nL_add (a b : Nat) : lN a + lN b = lN (a + b) := (Int64.ofNat_add a b).symm
theorem nL_mul (a b : Nat) : lN a * lN b = lN (a * b) := (Int64.ofNat_mul a b).symm
theorem nL_i2l {n : Nat} (h : n < 2 ^ 31) : (nI n).toInt64 = lN n := Int64.toInt_inj.mp (by rw [zi2n h, lN_z (by omega)])
theorem nL_inj {a b : Nat} (ha : a < 2 ^ 63) (hb : b < 2 ^ 63) : lN a = lN b ↔ a = b := by
  constructor
  · intro h
    have := congrArg Int64.toInt h
    rw [lN_z ha, lN_z hb] at this
    omega
  · intro h; rw [h]
theorem nL_div {a b : Nat} (ha : a < 2 ^ 63) (hb : 0 < b) (hb2 : b < 2 ^ 63) : lN a / lN b = lN (a / b) := by
  apply Int64.toInt_inj.mp
  have h1 : a / b ≤ a := Nat.div_le_self a b
  rw [lg_ldiv_nonneg (by rw [lN_z ha]; omega) (by rw [lN_z hb2]; omega), lN_z ha, lN_z hb2, lN_z (by omega)]
  rfl
theorem nL_rem {a b : Nat} (ha : a < 2 ^ 63) (hb : 0 < b) (hb2 : b < 2 ^ 63) : lN a - lN a / lN b * lN b = lN (a % b) := by
  rw [nL_div ha hb hb2, nL_mul]
  have h1 : a / b * b + a % b = a := Nat.div_add_mod' a b
  have h2 : lN (a / b * b) + lN (a % b) = lN a := by rw [nL_add, h1]
  rw [← h2]
  exact Int64.toInt_inj.mp (by rw [Int64.add_comm, Int64.add_sub_cancel])
theorem nL_ne {b : Nat} (hb : 0 < b) (hb2 : b < 2 ^ 63) : ¬ lN b = 0 := fun h => by
  have := congrArg Int64.toInt h
  rw [lN_z hb2] at this
  have e : (0 : Int64).toInt = 0 := by decide
  omega
section LOVE0
variable {G : zG} {I : zI} {L : zJ} {Q : zP}
theorem lcmp0 {b : Nat} (hb : b < 2 ^ 63) : lg_cmp (lN b) (lN 0) = 0 ↔ b = 0 := (lg_cmp_eq _ _).trans (nL_inj hb (by decide))
theorem gcd_step (a b : Nat) : Nat.gcd b (a % b) = Nat.gcd a b := by rw [Nat.gcd_comm a b, Nat.gcd_rec b a, Nat.gcd_comm]
theorem c_gcdM {x y : Nat} (hx : x < 2 ^ 63) (hy : y < 2 ^ 63) (hq : Q (some (.long (lN (Nat.gcd x y)))) I L) : Zm G 213 [.long (lN x), .long (lN y)] I L Q := by
  have loop : ∀ n a b, b ≤ n → a < 2 ^ 63 → b < 2 ^ 63 → Nat.gcd a b = Nat.gcd x y → Zp G 213 6 [some (.long (lN x)), none, some (.long (lN y)), none, some (.long (lN a)), none, some (.long (lN b)), none, none, none] [] I L Q := by
    intro n
    induction n with
    | zero =>
      intro a b hb ha hb2 hg
      have e : b = 0 := Nat.le_zero.mp hb
      subst e
      refine Zp.lload k_213_6 rfl ?_
      refine Zp.lconst (lN 0) k_213_8 (by decide) ?_
      refine Zp.lcmp k_213_9 ?_
      refine Zp.if_eq k_213_10 (fun c_10 => ?_) (fun c_10 => (by first | exact absurd c_10 ((lcmp0 (by decide)).mpr rfl) | exact absurd ((lcmp0 (by decide)).mpr rfl) c_10))
      refine Zp.lload k_213_31 rfl ?_
      refine Zp.lret k_213_33 vr_213 ?_
      rw [Nat.gcd_zero_right] at hg
      rw [hg]
      exact hq
    | succ n ih =>
      intro a b hb ha hb2 hg
      refine Zp.lload k_213_6 rfl ?_
      refine Zp.lconst (lN 0) k_213_8 (by decide) ?_
      refine Zp.lcmp k_213_9 ?_
      refine Zp.if_eq k_213_10 (fun c_10 => ?_) (fun c_10 => ?_)
      · refine Zp.lload k_213_31 rfl ?_
        refine Zp.lret k_213_33 vr_213 ?_
        have e : b = 0 := (lcmp0 hb2).mp c_10
        subst e
        rw [Nat.gcd_zero_right] at hg
        rw [hg]
        exact hq
      · have hb0 : 0 < b := Nat.pos_of_ne_zero fun z => c_10 ((lcmp0 hb2).mpr z)
        have hm := Nat.mod_lt a hb0
        refine Zp.lload k_213_13 rfl ?_
        refine Zp.lload k_213_15 rfl ?_
        refine Zp.lrem k_213_17 (nL_ne hb0 hb2) ?_
        rw [nL_rem ha hb0 hb2]
        refine Zp.lstore [some (.long _), none, some (.long _), none, some (.long _), none, some (.long _), none, some (.long _), none] k_213_18 (Nat.lt_of_lt_of_eq (zlt rfl : 8 + 1 < 10) vl_213.symm) rfl ?_
        refine Zp.lload k_213_20 rfl ?_
        refine Zp.lstore [some (.long _), none, some (.long _), none, some (.long _), none, some (.long _), none, some (.long _), none] k_213_22 (Nat.lt_of_lt_of_eq (zlt rfl : 4 + 1 < 10) vl_213.symm) rfl ?_
        refine Zp.lload k_213_24 rfl ?_
        refine Zp.lstore [some (.long _), none, some (.long _), none, some (.long _), none, some (.long _), none, some (.long _), none] k_213_26 (Nat.lt_of_lt_of_eq (zlt rfl : 6 + 1 < 10) vl_213.symm) rfl ?_
        refine Zp.goto k_213_28 ?_
        refine Zp.locs _ (fun j v hj => ?_) (ih b (a % b) (by omega) hb2 (by omega) ((gcd_step a b).trans hg))
        match j, hj with
        | 0, hj => exact hj
        | 1, hj => exact absurd hj (by simp)
        | 2, hj => exact hj
        | 3, hj => exact absurd hj (by simp)
        | 4, hj => exact hj
        | 5, hj => exact absurd hj (by simp)
        | 6, hj => exact hj
        | 7, hj => exact absurd hj (by simp)
        | 8, hj => exact absurd hj (by simp)
        | 9, hj => exact absurd hj (by simp)
        | _ + 10, hj => exact absurd hj (by simp)
  refine Zm.go [some (.long _), none, some (.long _), none, none, none, none, none, none, none] vl_213 rfl ?_
  refine Zp.lload_n k_213_0 rfl ?_
  refine Zp.lstore [some (.long _), none, some (.long _), none, some (.long _), none, none, none, none, none] k_213_1 (Nat.lt_of_lt_of_eq (zlt rfl : 4 + 1 < 10) vl_213.symm) rfl ?_
  refine Zp.lload_n k_213_3 rfl ?_
  refine Zp.lstore [some (.long _), none, some (.long _), none, some (.long _), none, some (.long _), none, none, none] k_213_4 (Nat.lt_of_lt_of_eq (zlt rfl : 6 + 1 < 10) vl_213.symm) rfl ?_
  exact loop y x y (Nat.le_refl _) hx hy rfl
theorem half_gcd {a b n : Nat} (hb : 0 < b) (hab : b < a) (hp : a * b < 2 ^ (n + 1)) : b * (a % b) < 2 ^ n := by
  have h1 : b * (a / b) + a % b = a := Nat.div_add_mod a b
  have h2 : 0 < a / b := Nat.div_pos (Nat.le_of_lt hab) hb
  have h3 : b ≤ b * (a / b) := Nat.le_mul_of_pos_right b h2
  have h4 := Nat.mod_lt a hb
  have h5 : 2 * (a % b) < a := by omega
  have h6 : b * (2 * (a % b)) < b * a := Nat.mul_lt_mul_of_pos_left h5 hb
  rw [Nat.mul_left_comm, Nat.mul_comm b a] at h6
  rw [Nat.pow_succ] at hp
  omega
theorem c_gcd {x y : Nat} (hx : x < 2 ^ 63) (hy : y < 2 ^ 63) (hq : Q (some (.long (lN (Nat.gcd x y)))) I L) : Zm G 118 [.long (lN x), .long (lN y)] I L Q := by
  have lcN : ∀ (v1 v3 v5 v7 v9 : Value) (w : Value) (j : Nat) (u : Value), ([some v1, none, some v3, none, some v5, none, some v7, none, some v9, none, none] : List (Option Value))[j]? = some (some u) → ([some v1, none, some v3, none, some v5, none, some v7, none, some v9, some w, none] : List (Option Value))[j]? = some (some u) := by
    intro v1 v3 v5 v7 v9 w j u hj
    match j, hj with
    | 0, hj => exact hj
    | 1, hj => exact absurd hj (by simp)
    | 2, hj => exact hj
    | 3, hj => exact absurd hj (by simp)
    | 4, hj => exact hj
    | 5, hj => exact absurd hj (by simp)
    | 6, hj => exact hj
    | 7, hj => exact absurd hj (by simp)
    | 8, hj => exact hj
    | 9, hj => exact absurd hj (by simp)
    | 10, hj => exact absurd hj (by simp)
    | _ + 11, hj => exact absurd hj (by simp)
  have fin : ∀ i a, i < 1000 → Nat.gcd a 0 = Nat.gcd x y → Zp G 118 9 [some (.long (lN x)), none, some (.long (lN y)), none, some (.long (lN a)), none, some (.long (lN 0)), none, some (.int (nI i)), none, none] [] I L Q := by
    intro i a hi hg
    rw [Nat.gcd_zero_right] at hg
    subst hg
    refine Zp.iload k_118_9 rfl ?_
    refine Zp.sipush (nI 1000) k_118_11 (by decide) ?_
    refine Zp.icmp_geN k_118_14 (by omega) (by omega) (fun c_14 => absurd c_14 (by omega)) (fun c_14 => ?_)
    refine Zp.lload k_118_17 rfl ?_
    refine Zp.lconst (lN 0) k_118_19 (by decide) ?_
    refine Zp.lcmp k_118_20 ?_
    refine Zp.if_eq k_118_21 (fun c_21 => ?_) (fun c_21 => (by first | exact absurd c_21 ((lcmp0 (by decide)).mpr rfl) | exact absurd ((lcmp0 (by decide)).mpr rfl) c_21))
    refine Zp.lload k_118_45 rfl ?_
    refine Zp.lret k_118_47 vr_118 ?_
    exact hq
  have loop : ∀ n i a b, b < a → a * b < 2 ^ n → i + n ≤ 500 → a < 2 ^ 63 → b < 2 ^ 63 → Nat.gcd a b = Nat.gcd x y → Zp G 118 9 [some (.long (lN x)), none, some (.long (lN y)), none, some (.long (lN a)), none, some (.long (lN b)), none, some (.int (nI i)), none, none] [] I L Q := by
    intro n
    induction n with
    | zero =>
      intro i a b hab hp hi ha hb2 hg
      have h0 : a * b = 0 := Nat.lt_one_iff.mp hp
      rcases Nat.mul_eq_zero.mp h0 with e | e
      · omega
      · subst e; exact fin i a (by omega) hg
    | succ n ih =>
      intro i a b hab hp hi ha hb2 hg
      by_cases e : b = 0
      · subst e; exact fin i a (by omega) hg
      · have hb0 : 0 < b := Nat.pos_of_ne_zero e
        have hm := Nat.mod_lt a hb0
        refine Zp.iload k_118_9 rfl ?_
        refine Zp.sipush (nI 1000) k_118_11 (by decide) ?_
        refine Zp.icmp_geN k_118_14 (by omega) (by omega) (fun c_14 => absurd c_14 (by omega)) (fun c_14 => ?_)
        refine Zp.lload k_118_17 rfl ?_
        refine Zp.lconst (lN 0) k_118_19 (by decide) ?_
        refine Zp.lcmp k_118_20 ?_
        refine Zp.if_eq k_118_21 (fun c_21 => (by first | exact absurd c_21 (fun z => e ((lcmp0 hb2).mp z)) | exact absurd (fun z => e ((lcmp0 hb2).mp z)) c_21)) (fun c_21 => ?_)
        refine Zp.lload k_118_24 rfl ?_
        refine Zp.lload k_118_26 rfl ?_
        refine Zp.lrem k_118_28 (nL_ne hb0 hb2) ?_
        rw [nL_rem ha hb0 hb2]
        refine Zp.lstore [some (.long _), none, some (.long _), none, some (.long _), none, some (.long _), none, some (.int _), some (.long _), none] k_118_29 (Nat.lt_of_lt_of_eq (zlt rfl : 9 + 1 < 11) vl_118.symm) rfl ?_
        refine Zp.lload k_118_31 rfl ?_
        refine Zp.lstore [some (.long _), none, some (.long _), none, some (.long _), none, some (.long _), none, some (.int _), some (.long _), none] k_118_33 (Nat.lt_of_lt_of_eq (zlt rfl : 4 + 1 < 11) vl_118.symm) rfl ?_
        refine Zp.lload k_118_35 rfl ?_
        refine Zp.lstore [some (.long _), none, some (.long _), none, some (.long _), none, some (.long _), none, some (.int _), some (.long _), none] k_118_37 (Nat.lt_of_lt_of_eq (zlt rfl : 6 + 1 < 11) vl_118.symm) rfl ?_
        refine Zp.iinc (nI (_ + 1)) [some (.long _), none, some (.long _), none, some (.long _), none, some (.long _), none, some (.int _), some (.long _), none] k_118_39 rfl (nI_1 _) (Nat.lt_of_lt_of_eq (zlt rfl : 8 < 11) vl_118.symm) rfl ?_
        refine Zp.goto k_118_42 ?_
        exact Zp.locs _ (lcN _ _ _ _ _ _) (ih (i + 1) b (a % b) hm (half_gcd hb0 hab hp) (by omega) hb2 (by omega) ((gcd_step a b).trans hg))
  have start : Zp G 118 9 [some (.long (lN x)), none, some (.long (lN y)), none, some (.long (lN x)), none, some (.long (lN y)), none, some (.int (nI 0)), none, none] [] I L Q := by
    by_cases e : y = 0
    · subst e; exact fin 0 x (by decide) rfl
    · have hb0 : 0 < y := Nat.pos_of_ne_zero e
      have hm := Nat.mod_lt x hb0
      have hp : y * (x % y) < 2 ^ 126 := Nat.lt_of_lt_of_le (Nat.mul_lt_mul'' hy (Nat.lt_trans hm hy)) (by decide)
      refine Zp.iload k_118_9 rfl ?_
      refine Zp.sipush (nI 1000) k_118_11 (by decide) ?_
      refine Zp.icmp_geN k_118_14 (by omega) (by omega) (fun c_14 => absurd c_14 (by omega)) (fun c_14 => ?_)
      refine Zp.lload k_118_17 rfl ?_
      refine Zp.lconst (lN 0) k_118_19 (by decide) ?_
      refine Zp.lcmp k_118_20 ?_
      refine Zp.if_eq k_118_21 (fun c_21 => (by first | exact absurd c_21 (fun z => e ((lcmp0 hy).mp z)) | exact absurd (fun z => e ((lcmp0 hy).mp z)) c_21)) (fun c_21 => ?_)
      refine Zp.lload k_118_24 rfl ?_
      refine Zp.lload k_118_26 rfl ?_
      refine Zp.lrem k_118_28 (nL_ne hb0 hy) ?_
      rw [nL_rem hx hb0 hy]
      refine Zp.lstore [some (.long _), none, some (.long _), none, some (.long _), none, some (.long _), none, some (.int _), some (.long _), none] k_118_29 (Nat.lt_of_lt_of_eq (zlt rfl : 9 + 1 < 11) vl_118.symm) rfl ?_
      refine Zp.lload k_118_31 rfl ?_
      refine Zp.lstore [some (.long _), none, some (.long _), none, some (.long _), none, some (.long _), none, some (.int _), some (.long _), none] k_118_33 (Nat.lt_of_lt_of_eq (zlt rfl : 4 + 1 < 11) vl_118.symm) rfl ?_
      refine Zp.lload k_118_35 rfl ?_
      refine Zp.lstore [some (.long _), none, some (.long _), none, some (.long _), none, some (.long _), none, some (.int _), some (.long _), none] k_118_37 (Nat.lt_of_lt_of_eq (zlt rfl : 6 + 1 < 11) vl_118.symm) rfl ?_
      refine Zp.iinc (nI (_ + 1)) [some (.long _), none, some (.long _), none, some (.long _), none, some (.long _), none, some (.int _), some (.long _), none] k_118_39 rfl (nI_1 _) (Nat.lt_of_lt_of_eq (zlt rfl : 8 < 11) vl_118.symm) rfl ?_
      refine Zp.goto k_118_42 ?_
      exact Zp.locs _ (lcN _ _ _ _ _ _) (loop 126 (0 + 1) y (x % y) hm hp (by decide) hy (by omega) (gcd_step x y))
  refine Zm.go [some (.long _), none, some (.long _), none, none, none, none, none, none, none, none] vl_118 rfl ?_
  refine Zp.lload_n k_118_0 rfl ?_
  refine Zp.lstore [some (.long _), none, some (.long _), none, some (.long _), none, none, none, none, none, none] k_118_1 (Nat.lt_of_lt_of_eq (zlt rfl : 4 + 1 < 11) vl_118.symm) rfl ?_
  refine Zp.lload_n k_118_3 rfl ?_
  refine Zp.lstore [some (.long _), none, some (.long _), none, some (.long _), none, some (.long _), none, none, none, none] k_118_4 (Nat.lt_of_lt_of_eq (zlt rfl : 6 + 1 < 11) vl_118.symm) rfl ?_
  refine Zp.iconst (nI 0) k_118_6 (by decide) ?_
  refine Zp.istore [some (.long _), none, some (.long _), none, some (.long _), none, some (.long _), none, some (.int _), none, none] k_118_7 (Nat.lt_of_lt_of_eq (zlt rfl : 8 < 11) vl_118.symm) rfl ?_
  exact start
end LOVE0
