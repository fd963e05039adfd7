/-! THE LAW: answers' kinds, an argument out of the script, the first state -/
section FIRST
variable {G : zG} {mid pc pc' : Nat} {lo : List (Option Value)} {st : List Value} {I : zI} {L : zJ} {Q : zP}
/-- a method that answers an int -/
theorem Zm.int {av : List Value} (hr : zr mid = some .int) (k : Zm G mid av I L Q) : Zm G mid av I L (fun r I' L' => (∃ x, r = some (.int x)) ∧ Q r I' L') := by
  intro R hR p l e Ro s m args below meth c H locs cells slots ac ls Qf C hH h1 h2 hL hret
  refine k R hR p l e Ro s m args below meth c H locs cells slots ac ls Qf C hH h1 h2 hL ?_
  intro r w' H' locs' cells' slots' ac' pc' ls' hq hH' c1 c2 hz
  obtain ⟨I', L', ew, q⟩ := hq
  refine hret r w' H' locs' cells' slots' ac' pc' ls' ⟨I', L', ew, ?_, q⟩ hH' c1 c2 hz
  match r, hz with
  | none, hz => have h := hr.symm.trans hz.1; cases h
  | some (.int v), _ => exact ⟨v, rfl⟩
  | some (.long v), hz => have h := hr.symm.trans hz.1; cases h
  | some .null, hz => exact hz.elim
  | some (.ref _), hz => exact hz.elim
  | some (.float _), hz => exact hz.elim
  | some (.double _), hz => exact hz.elim
  | some (.retAddr _), hz => exact hz.elim
/-- the script's int at i + c onto the stack -/
theorem Zp.arg {p1 p2 p3 p4 i : Nat} {n : Int} {b1 b2 b3 b4 b5 : List Nat} (c : Nat) (h1 : zIn mid pc p1 (.aload_n 0) 1 b1) (h2 : zIn mid p1 p2 (.iload_n 3) 1 b2) (h3 : zIn mid p2 p3 (.iconst n) 1 b3) (h4 : zIn mid p3 p4 .iadd 1 b4) (h5 : zIn mid p4 pc' .iaload 1 b5)
    (hlo : lo = [some (.ref 1000000), some (.ref 0), some (.ref 93), some (.int (nI i))]) (hn : Int32.ofInt n = nI c) (hin : i + c < gsL G) (hs : gsL G ≤ 320) (k : Zp G mid pc' lo (.int (gxs G (i + c)) :: st) I L Q) : Zp G mid pc lo st I L Q := by
  subst hlo
  refine Zp.aload_n h1 rfl ?_
  refine Zp.iload_n h2 rfl ?_
  refine Zp.iconst (nI c) h3 hn ?_
  refine Zp.iaddN h4 ?_
  refine Zp.sld h5 (vp_in_nI hin (by omega)) ?_
  rw [nI_clamp (by omega)]
  exact k
theorem PicM.fc {A : zQs} {I' : zI} (h : PicM A I) (f : FrC I I') : PicM A I' :=
  have e : ∀ j, I' 93 j = I 93 j := fun j => congrFun (f 93 (by decide)) j
  h.fr (e 3) (e 4) (e 18) (e 23) (e 34) fun q hq => f q (by omega)
theorem PicC.fm {A : zQs} {I' : zI} (h : PicC A I) (f : FrM I I') : PicC A I' := h.fr fun q hq => f q (by omega)
theorem lg_cmp_rf (v : Int64) : lg_cmp v v = 0 := by
  unfold lg_cmp
  rw [if_neg (fun h => by have := Int64.lt_iff_toInt_lt.mp h; omega), if_pos rfl]
theorem and63 (x : Int32) : ∃ j, j < 64 ∧ x &&& nI 63 = nI j := by
  refine ⟨x.toBitVec.toNat % 64, Nat.mod_lt _ (by decide), Int32.toBitVec_inj.mp (BitVec.eq_of_toNat_eq ?_)⟩
  show (x.toBitVec &&& BitVec.ofNat 32 63).toNat = (BitVec.ofNat 32 (x.toBitVec.toNat % 64)).toNat
  rw [BitVec.toNat_and, BitVec.toNat_ofNat, BitVec.toNat_ofNat, show (63 % 2 ^ 32 : Nat) = 2 ^ 6 - 1 from rfl, Nat.and_two_pow_sub_one_eq_mod]
  omega
/-- the state that both constructors leave -/
def A0 : zQs := (K0, K0, K0, 0, 0, (0, fun _ => 0), 0, 0, fun _ => (0, 0, fun _ => 0))
theorem A0_o : Ao A0 := by
  obtain ⟨d1, d2, d3, d4, d5, d6, d7, d8, d9⟩ := D0_o
  refine ⟨⟨d1, ?_, by decide, d4, d6, ?_⟩, by decide, by decide, fun c => absurd c (by decide), fun c => absurd c (by decide), by decide, fun i hi => absurd hi (Nat.not_lt_zero i), by decide, by decide, fun k hk => ⟨Nat.zero_le _, Nat.zero_le _⟩⟩
  · exact fun a b ha hb h => rfl
  · exact ⟨by decide, fun i hi => absurd hi (Nat.not_lt_zero i)⟩
theorem A0_c {w : zW} (s : zST 111 110 102 w) : PicC A0 w.2.1 := by
  refine ⟨⟨⟨s.int (by decide +kernel), s.int (by decide +kernel), s.int (by decide +kernel), s.int (by decide +kernel), s.int (by decide +kernel), s.int (by decide +kernel), fun a ha => absurd ha (Nat.not_lt_zero a), fun j hj => ?_⟩, ⟨s.int (by decide +kernel), s.int (by decide +kernel), fun a ha => absurd ha (Nat.not_lt_zero a), fun a ha => absurd ha (Nat.not_lt_zero a), fun a ha => absurd ha (Nat.not_lt_zero a)⟩, ⟨s.int (by decide +kernel), fun a ha => absurd ha (Nat.not_lt_zero a)⟩, ⟨s.int (by decide +kernel), fun a ha => absurd ha (Nat.not_lt_zero a), fun a ha => absurd ha (Nat.not_lt_zero a)⟩⟩,
    s.int (by decide +kernel), fun c => absurd c (by decide), fun c => absurd c (by decide), s.int (by decide +kernel), fun a ha => absurd ha (Nat.not_lt_zero a), s.int (by decide +kernel), s.int (by decide +kernel), fun k hk => ⟨fun _ => ?_, fun c => absurd rfl c⟩⟩
  · show w.2.1 4 j = nI 0
    rw [s.2.2.2 4 (by decide) (by decide)]
    rfl
  · match k, hk with
    | 0, _ => exact s.int (by decide +kernel)
    | 1, _ => exact s.int (by decide +kernel)
    | 2, _ => exact s.int (by decide +kernel)
    | 3, _ => exact s.int (by decide +kernel)
/-- the reference's constructor from its lanes on -/
theorem c_X11_init (z : I 93 = fun _ => 0) (hq : ∀ I', PicM A0 I' → (∀ q, q < 93 → I' q = I q) → Q none I' L) : Zp G 130 139 [some (.ref 93), none] [] I L Q := by
  have loop : ∀ k i (I1 : zI), i + k = 4 → (∀ j, j < i → I1 107 j = -4) → (∀ q, q ≠ 107 → I1 q = I q) → Zp G 130 141 [some (.ref 93), some (.int (nI i))] [] I1 L Q := by
    intro k
    induction k with
    | zero =>
      intro i I1 hi h1 h2
      have e : i = 4 := by omega
      subst e
      refine Zp.iload_n k_130_141 rfl ?_
      refine Zp.iconst (nI 4) k_130_142 (by decide) ?_
      refine Zp.icmp_geN k_130_143 (by omega) (by omega) (fun c_5 => ?_) (fun c_5 => absurd c_5 (by omega))
      refine Zp.aload_n k_130_160 rfl ?_
      refine Zp.callv0V v_133 k_130_161 m_93 (Nat.le_of_ble_eq_true rfl) (Nat.le_of_ble_eq_true rfl) (c_firstDraftM (fun I2 dm fq fj => ⟨rfl, ?_⟩))
      refine Zp.aload_n k_130_164 rfl ?_
      refine Zp.callv0V v_134 k_130_165 m_93 (Nat.le_of_ble_eq_true rfl) (Nat.le_of_ble_eq_true rfl) (c_keepDraftM dm D0_o (fun I3 k0 k3 k4 k7 k8 k9 k60 k61 kq kj => ⟨rfl, ?_⟩))
      refine Zp.vret k_130_168 vr_130 ?_
      have z3 : ∀ j, 16 < j → I3 93 j = nI 0 := fun j hj => by
        rw [kj j (by omega), fj j (by omega), h2 93 (by decide), z]
        rfl
      refine hq I3 ⟨k3, k0, k4, k7, k8, k9, k60, k61, fun c => absurd c (by decide), fun c => absurd c (by decide), z3 18 (by decide), fun i hi => absurd hi (Nat.not_lt_zero i), z3 23 (by decide), z3 34 (by decide), fun k hk => ⟨fun _ => ?_, fun c => absurd rfl c⟩⟩ (fun q hq => ?_)
      · rw [kq 107 (by decide) (by decide), fq 107 (by decide) (by decide)]
        exact h1 k hk
      · rw [kq q (by omega) (by omega), fq q (by omega) (by omega), h2 q (by omega)]
    | succ k ih =>
      intro i I1 hi h1 h2
      refine Zp.iload_n k_130_141 rfl ?_
      refine Zp.iconst (nI 4) k_130_142 (by decide) ?_
      refine Zp.icmp_geN k_130_143 (by omega) (by omega) (fun c_5 => absurd c_5 (by omega)) (fun c_5 => ?_)
      refine Zp.aload_n k_130_146 rfl ?_
      refine Zp.getR k_130_147 rfl (zlt rfl) m_93 r_93_31 ?_
      refine Zp.iload_n k_130_150 rfl ?_
      refine Zp.bipush (-4) k_130_151 (by decide) ?_
      refine Zp.iast _ k_130_153 m_107 rfl (by omega) (zlt rfl) ?_
      refine Zp.iinc (nI (i + 1)) [some (.ref 93), some (.int (nI (i + 1)))] k_130_154 rfl (by rw [show Int32.ofInt 1 = nI 1 by decide, nI_add]) (by rw [vl_130]; decide) rfl ?_
      refine Zp.goto k_130_157 ?_
      refine ih (i + 1) _ (by omega) (fun j hj => ?_) (fun q hq => ?_)
      · by_cases e : j = i
        · subst e; exact zpu_s _ _ _ _
        · exact (zpu_k _ _ _ e).trans (h1 j (by omega))
      · exact (zpu_q _ _ _ hq).trans (h2 q hq)
  refine Zp.iconst (nI 0) k_130_139 (by decide) ?_
  refine Zp.istore_n [some (.ref 93), some (.int (nI 0))] k_130_140 (by rw [vl_130]; decide) rfl ?_
  exact loop 4 0 I rfl (fun j hj => absurd hj (Nat.not_lt_zero j)) (fun _ _ => rfl)
theorem i_X11 {w : zW} {Q : Option Value → zW → Prop} (s : zST 94 93 102 w) (kk : ∀ (I : zI) (L : zJ) (R : zR), Rok R → PicC A0 I → PicM A0 I → Q none (M0, I, L, R)) : ZM G 130 [.ref 93] w 17 729 Q := by
  refine i_X11_init_93 s (fun w s => ?_)
  have hR : Rok w.2.2.2 := fun e he => (s.2.1 e (by
    have h : zRS.take 110 = zRS := by decide +kernel
    rw [h]
    exact zRS_all e he)).2
  have pc := A0_c s
  have hz : w.2.1 93 = fun _ => 0 := s.2.2.2 93 (by decide) (by decide)
  have hT : w.1 = M0 := s.1.trans (by decide +kernel)
  obtain ⟨T, I, L, R⟩ := w
  dsimp only at hR pc hz hT
  subst hT
  refine ZW.mono (fun r w' h => ?_) (c_X11_init (G := G) (L := L) (Q := fun r I' L' => r = none ∧ PicM A0 I' ∧ ∀ q, q < 93 → I' q = I q) hz (fun I' p f => ⟨rfl, p, f⟩) R hR)
  obtain ⟨I', L', rfl, rfl, p, f⟩ := h
  exact kk I' L' R hR (pc.fm f) p
end FIRST
