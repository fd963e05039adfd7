/-! LOVE -/
def wN (S : zSo) : Nat := if sneed S ≤ sdone S then 1 else 0
def wD (S : zSo) : Nat := sdone S
def lvC (w : zSo → Nat) (S : zSo) (a b v : Nat) : Nat → Nat
  | 0 => 0
  | k + 1 => 10 * lvC w S a b v k + (10 - v) ^ k * v * w (aG S a b k)
def lvM (w : zSo → Nat) (S : zSo) (a b v left : Nat) : Nat → Nat
  | 0 => 0
  | k + 1 => lvM w S a b v left k + (10 - v) ^ k * v * 10 ^ (left - (k + 1)) * w (aG S a b k)
theorem lvM_eq (w : zSo → Nat) (S : zSo) (a b v left : Nat) : ∀ k, k ≤ left → lvM w S a b v left k = lvC w S a b v k * 10 ^ (left - k)
  | 0, _ => by simp [lvM, lvC]
  | k + 1, h => by
    have ih := lvM_eq w S a b v left k (by omega)
    show lvM w S a b v left k + (10 - v) ^ k * v * 10 ^ (left - (k + 1)) * w (aG S a b k) = (10 * lvC w S a b v k + (10 - v) ^ k * v * w (aG S a b k)) * 10 ^ (left - (k + 1))
    rw [ih, show left - k = left - (k + 1) + 1 by omega, Nat.pow_succ, Nat.add_mul]
    congr 1
    · rw [Nat.mul_comm (10 ^ (left - (k + 1))) 10, ← Nat.mul_assoc, Nat.mul_comm (lvC w S a b v k) 10]
    · rw [Nat.mul_assoc, Nat.mul_comm (10 ^ (left - (k + 1))), ← Nat.mul_assoc]
theorem lvC_le {w : zSo → Nat} (hw : ∀ T, So T → w T ≤ 999) {S : zSo} (ho : So S) (a b v : Nat) (hv : v ≤ 10) : ∀ k, lvC w S a b v k + (10 - v) ^ k * 999 ≤ 999 * 10 ^ k
  | 0 => by simp [lvC]
  | k + 1 => by
    have ih := lvC_le hw ho a b v hv k
    have h1 := hw _ (aG_o ho a b k)
    show 10 * lvC w S a b v k + (10 - v) ^ k * v * w (aG S a b k) + (10 - v) ^ (k + 1) * 999 ≤ 999 * 10 ^ (k + 1)
    have h2 : (10 - v) ^ k * v * w (aG S a b k) ≤ (10 - v) ^ k * v * 999 := Nat.mul_le_mul_left _ h1
    have h3 : (10 - v) ^ k * v * 999 + (10 - v) ^ (k + 1) * 999 = 10 * ((10 - v) ^ k * 999) := by
      rw [Nat.pow_succ, ← Nat.add_mul, ← Nat.mul_add, show v + (10 - v) = 10 by omega, Nat.mul_comm ((10 - v) ^ k) 10, Nat.mul_assoc]
    have h4 : (10 : Nat) ^ (k + 1) = 10 * 10 ^ k := by rw [Nat.pow_succ, Nat.mul_comm]
    rw [h4]
    omega
/-- how many steps they may stir, of the first i -/
def stp (S : zSo) (a b : Nat) : Nat → Nat
  | 0 => 0
  | k + 1 => if stp S a b k = k ∧ canS (aG S a b k) then k + 1 else stp S a b k
theorem stp_stop {S : zSo} {a b i : Nat} (hi : stp S a b i = i) (h : ¬ canS (aG S a b i)) : ∀ k, stp S a b (i + k) = i
  | 0 => hi
  | k + 1 => by
    have ih := stp_stop hi h k
    show (if stp S a b (i + k) = i + k ∧ canS (aG S a b (i + k)) then i + k + 1 else stp S a b (i + k)) = i
    rw [if_neg (fun z => h (by have e := z.1; rw [ih] at e; rw [e]; exact z.2))]
    exact ih
theorem stp_go {S : zSo} {a b i : Nat} (hi : stp S a b i = i) (h : canS (aG S a b i)) : stp S a b (i + 1) = i + 1 := if_pos ⟨hi, h⟩
theorem aG_go {S : zSo} {a b i : Nat} (h : canS (aG S a b i)) : aG S a b (i + 1) = stS (aG S a b i) a b := if_pos h
/-- the sum and all, over the steps that are stirred -/
def lvS (w : zSo → Nat) (S : zSo) (a b v m : Nat) : Nat := lvC w S a b v m + (10 - v) ^ m * w (aG S a b m)
theorem lvS_le {w : zSo → Nat} (hw : ∀ T, So T → w T ≤ 999) {S : zSo} (ho : So S) (a b v : Nat) (hv : v ≤ 10) {k : Nat} (hk : k ≤ 12) : lvS w S a b v k < 2 ^ 62 := by
  have h1 := lvC_le hw ho a b v hv k
  have h2 : (10 - v) ^ k * w (aG S a b k) ≤ (10 - v) ^ k * 999 := Nat.mul_le_mul_left _ (hw _ (aG_o ho a b k))
  have h3 : 999 * 10 ^ k ≤ 999 * 10 ^ 12 := Nat.mul_le_mul_left _ (Nat.pow_le_pow_right (by decide) hk)
  unfold lvS
  omega
theorem wN_le (T : zSo) (_ : So T) : wN T ≤ 999 := by unfold wN; split <;> omega
theorem wD_le (T : zSo) (h : So T) : wD T ≤ 999 := h.2.2.2.1
/-- the part told: over or under, reduced -/
def lvA (s m c : Nat) : Nat := if c = 0 then s / Nat.gcd (10 ^ m) s else 10 ^ m / Nat.gcd (10 ^ m) s
section LOVE2
variable {G : zG} {A : zQs} {I : zI} {L : zJ} {Q : zP}
theorem c_worth {T : zSo} {p : Nat} (hs : Sp I 31 T) (ho : So T) (hp : p ≤ 1) (hq : Q (some (.int (nI (if p = 1 then wN T else wD T)))) I L) : Zm G 117 [.ref 0, .int (nI p)] I L Q := by
  have o2 := ho.2.1
  have o4 := ho.2.2.2.1
  refine Zm.go [some (.ref _), some (.int _)] vl_117 rfl ?_
  refine Zp.iload_n k_117_0 rfl ?_
  refine Zp.if_eqN k_117_1 (by omega) (fun c_1 => ?_) (fun c_1 => ?_)
  · refine Zp.aload_n k_117_27 rfl ?_
    refine Zp.getR k_117_28 rfl (zlt rfl) m_0 r_0_5 ?_
    refine Zp.getV k_117_31 rfl (zlt rfl) m_31 hs.2.2.2.2.1 ?_
    refine Zp.iret _ k_117_34 vr_117 rfl ?_
    first | (rw [if_pos (by omega), show wN T = _ from if_pos (by omega)] at hq; exact hq) | (rw [if_pos (by omega), show wN T = _ from if_neg (by omega)] at hq; exact hq) | (rw [if_neg (by omega)] at hq; exact hq)
  · refine Zp.aload_n k_117_4 rfl ?_
    refine Zp.getR k_117_5 rfl (zlt rfl) m_0 r_0_5 ?_
    refine Zp.getV k_117_8 rfl (zlt rfl) m_31 hs.2.2.2.2.1 ?_
    refine Zp.aload_n k_117_11 rfl ?_
    refine Zp.getR k_117_12 rfl (zlt rfl) m_0 r_0_5 ?_
    refine Zp.getV k_117_15 rfl (zlt rfl) m_31 hs.2.1 ?_
    refine Zp.icmp_ltN k_117_18 (by omega) (by omega) (fun c_18 => ?_) (fun c_18 => ?_)
    · refine Zp.iconst (nI 0) k_117_25 (by decide) ?_
      refine Zp.iret _ k_117_26 vr_117 rfl ?_
      first | (rw [if_pos (by omega), show wN T = _ from if_pos (by omega)] at hq; exact hq) | (rw [if_pos (by omega), show wN T = _ from if_neg (by omega)] at hq; exact hq) | (rw [if_neg (by omega)] at hq; exact hq)
    · refine Zp.iconst (nI 1) k_117_21 (by decide) ?_
      refine Zp.goto k_117_22 ?_
      refine Zp.iret _ k_117_26 vr_117 rfl ?_
      first | (rw [if_pos (by omega), show wN T = _ from if_pos (by omega)] at hq; exact hq) | (rw [if_pos (by omega), show wN T = _ from if_neg (by omega)] at hq; exact hq) | (rw [if_neg (by omega)] at hq; exact hq)
theorem c_told {s m c t : Nat} (hs : s * t < 2 ^ 63) (hm : 10 ^ m * t < 2 ^ 63) (ht : 0 < t) (hc : c < 2) (hq : Q (some (.long (lN (lvA s m c)))) I L) : Zm G 214 [.long (lN (s * t)), .long (lN (10 ^ m * t)), .int (nI c)] I L Q := by
  have hg : Nat.gcd (10 ^ m * t) (s * t) = Nat.gcd (10 ^ m) s * t := Nat.gcd_mul_right _ _ _
  have h10 : 0 < 10 ^ m := Nat.pow_pos (by decide)
  have hg0 : 0 < Nat.gcd (10 ^ m) s := Nat.gcd_pos_of_pos_left _ h10
  have hg1 : 0 < Nat.gcd (10 ^ m) s * t := Nat.mul_pos hg0 ht
  have hg2 : Nat.gcd (10 ^ m) s * t < 2 ^ 63 := Nat.lt_of_le_of_lt (Nat.mul_le_mul_right t (Nat.gcd_le_left s h10)) hm
  refine Zm.go [some (.long _), none, some (.long _), none, some (.int _), none, none] vl_214 rfl ?_
  refine Zp.lload_n k_214_0 rfl ?_
  refine Zp.lload_n k_214_1 rfl ?_
  refine Zp.calls2L vs_213 k_214_2 (Nat.le_of_ble_eq_true rfl) (Nat.le_of_ble_eq_true rfl) (c_gcdM hm hs ⟨_, rfl, ?_⟩)
  rw [hg]
  refine Zp.lstore [some (.long _), none, some (.long _), none, some (.int _), some (.long _), none] k_214_5 (Nat.lt_of_lt_of_eq (zlt rfl : 5 + 1 < 7) vl_214.symm) rfl ?_
  refine Zp.iload k_214_7 rfl ?_
  refine Zp.if_neN k_214_9 (by omega) (fun c_9 => ?_) (fun c_9 => ?_)
  · refine Zp.lload_n k_214_19 rfl ?_
    refine Zp.lload k_214_20 rfl ?_
    refine Zp.ldiv k_214_22 (nL_ne hg1 hg2) ?_
    refine Zp.lret k_214_23 vr_214 ?_
    first | (rw [show lvA s m c = _ from if_pos c_9] at hq; rw [nL_div hs hg1 hg2, Nat.mul_div_mul_right _ _ ht]; exact hq) | (rw [show lvA s m c = _ from if_neg c_9] at hq; rw [nL_div hm hg1 hg2, Nat.mul_div_mul_right _ _ ht]; exact hq)
  · refine Zp.lload_n k_214_12 rfl ?_
    refine Zp.lload k_214_13 rfl ?_
    refine Zp.ldiv k_214_15 (nL_ne hg1 hg2) ?_
    refine Zp.goto k_214_16 ?_
    refine Zp.lret k_214_23 vr_214 ?_
    first | (rw [show lvA s m c = _ from if_pos c_9] at hq; rw [nL_div hs hg1 hg2, Nat.mul_div_mul_right _ _ ht]; exact hq) | (rw [show lvA s m c = _ from if_neg c_9] at hq; rw [nL_div hm hg1 hg2, Nat.mul_div_mul_right _ _ ht]; exact hq)
end LOVE2
