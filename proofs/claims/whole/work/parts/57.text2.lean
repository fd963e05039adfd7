/-! THE TEXT: the reference's text() -/
def o6 {α : Type} (x : Sum zFl α) : Prop := ∀ f, x = .inl f → f.1 ≤ 6
theorem o6_l {α : Type} {c s : Nat} (h : c ≤ 6) : o6 (.inl (c, s) : Sum zFl α) := fun f hf => by rw [← Sum.inl.inj hf]; exact h
theorem o6_r {α : Type} {y : α} : o6 (.inr y : Sum zFl α) := fun f hf => absurd hf (by simp)
theorem o6_b {α β : Type} {x : Sum zFl α} {f : α → Sum zFl β} (h : o6 x) (hf : ∀ y, o6 (f y)) : o6 (sbd x f) := by
  cases x with
  | inl e => intro g hg; have e2 : e = g := Sum.inl.inj hg; rw [← e2]; exact h e rfl
  | inr y => exact hf y
theorem o6_i {α : Type} {p : Prop} [Decidable p] {x y : Sum zFl α} (hx : o6 x) (hy : o6 y) : o6 (if p then x else y) := by
  split
  · exact hx
  · exact hy
theorem o6_N (T : zTp) (lo hi p : Nat) : o6 (rdN T lo hi p) := o6_i (o6_l (by decide)) (o6_i (o6_l (by decide)) (o6_i (o6_l (by decide)) o6_r))
theorem o6_H (T : zTp) (x : Int) (p : Nat) : o6 (rdH T x p) := by
  unfold rdH
  have h := o6_N T 0 4 p
  cases e : rdN T 0 4 p with
  | inl f => rw [e] at h; exact h
  | inr y => exact o6_i (o6_l (by decide)) o6_r
theorem o6_s (T : zTp) (p : Nat) : o6 (smc T p) := o6_i o6_r (o6_l (by split <;> decide))
theorem o6_hat (T : zTp) (bo : Nat) (D : zD) (p : Nat) : o6 (hatS T bo D p) := o6_b (o6_H _ _ _) fun _ => o6_b (o6_H _ _ _) fun _ => o6_i (o6_b (o6_N _ _ _ _) fun _ => o6_r) (o6_l (by decide))
theorem o6_lne (T : zTp) (D : zD) (s k p : Nat) : o6 (lneS T D s k p) :=
  o6_i (o6_l (by decide)) (o6_i (o6_i (o6_l (by decide)) (o6_b (o6_H _ _ _) fun _ => o6_b (o6_H _ _ _) fun _ => o6_r)) (o6_i (o6_i (o6_l (by decide)) (o6_b (o6_H _ _ _) fun _ => o6_b (o6_H _ _ _) fun _ => o6_b (o6_N _ _ _ _) fun _ => o6_r))
    (o6_i (o6_i (o6_l (by decide)) (o6_b (o6_N _ _ _ _) fun _ => o6_b (o6_N _ _ _ _) fun _ => o6_r)) (o6_i (o6_hat _ _ _ _) (o6_i (o6_hat _ _ _ _) (o6_i (o6_l (by decide)) o6_r))))))
theorem o6_ln (T : zTp) (D : zD) (t : Nat × Nat × Nat) : o6 (lnS T D t) := o6_i (o6_l (by decide)) (o6_i (o6_l (by decide)) (o6_b (o6_lne _ _ _ _ _) fun _ => o6_b (o6_s _ _) fun _ => o6_r))
theorem o6_prs (T : zTp) : ∀ k D p n, o6 (prs T k D p n)
  | 0, _, _, _ => o6_l (by decide)
  | k + 1, D, p, n => o6_i (o6_i o6_r (o6_l (by decide))) (o6_b (o6_ln _ _ _) fun y => o6_prs T k y.1 y.2 (n + 1))
section TEXTM
variable {G : zG} {A : zQs} {I : zI} {L : zJ} {Q : zP} {T : zTp} {D : zD} {p : Nat}
theorem c_firstDraftM (hq : ∀ I', DM I' D0 → (∀ q, q ≠ 93 → q ≠ 100 → I' q = I q) → (∀ j, (j < 9 ∨ 16 < j) → I' 93 j = I 93 j) → Q none I' L) : Zm G 133 [.ref 93] I L Q := by
  have loop : ∀ k i (I1 : zI), i + k = 58 → (∀ j, j < i → I1 100 j = nI 0) → (∀ q, q ≠ 100 → I1 q = I q) → Zp G 133 2 [some (.ref 93), some (.int (nI i))] [] I1 L Q := by
    intro k
    induction k with
    | zero =>
      intro i I1 hi h1 h2
      have e : i = 58 := by omega
      subst e
      refine Zp.iload_n k_133_2 rfl ?_
      refine Zp.bipush (nI 58) k_133_3 (by decide) ?_
      refine Zp.icmp_geN k_133_5 (by omega) (by omega) (fun c_5 => ?_) (fun c_5 => absurd c_5 (by omega))
      refine Zp.aload_n k_133_21 rfl ?_
      refine Zp.getR k_133_22 rfl (zlt rfl) m_93 r_93_8 ?_
      refine Zp.bipush (nI 30) k_133_25 (by decide) ?_
      refine Zp.bipush (nI 20) k_133_27 (by decide) ?_
      refine Zp.iast _ k_133_29 m_100 rfl (by omega) (zlt rfl) ?_
      refine Zp.aload_n k_133_30 rfl ?_
      refine Zp.getR k_133_31 rfl (zlt rfl) m_93 r_93_8 ?_
      refine Zp.bipush (nI 31) k_133_34 (by decide) ?_
      refine Zp.bipush (nI 8) k_133_36 (by decide) ?_
      refine Zp.iast _ k_133_38 m_100 rfl (by omega) (zlt rfl) ?_
      refine Zp.aload_n k_133_39 rfl ?_
      refine Zp.iconst (nI 0) k_133_40 (by decide) ?_
      refine Zp.putI k_133_41 rfl (zlt rfl) m_93 ?_
      refine Zp.aload_n k_133_44 rfl ?_
      refine Zp.iconst (nI 0) k_133_45 (by decide) ?_
      refine Zp.putI k_133_46 rfl (zlt rfl) m_93 ?_
      refine Zp.aload_n k_133_49 rfl ?_
      refine Zp.iconst (nI 0) k_133_50 (by decide) ?_
      refine Zp.putZ k_133_51 rfl (zlt rfl) (by decide) m_93 ?_
      refine Zp.aload_n k_133_54 rfl ?_
      refine Zp.iconst (nI 0) k_133_55 (by decide) ?_
      refine Zp.putI k_133_56 rfl (zlt rfl) m_93 ?_
      refine Zp.aload_n k_133_59 rfl ?_
      refine Zp.bipush (-4) k_133_60 (by decide) ?_
      refine Zp.putI k_133_62 rfl (zlt rfl) m_93 ?_
      refine Zp.vret k_133_65 vr_133 ?_
      have q100 : ∀ j, zpu (zpu (zpu (zpu (zpu (zpu (zpu I1 100 30 (nI 20)) 100 31 (nI 8)) 93 9 (nI 0)) 93 10 (nI 0)) 93 14 (nI 0)) 93 15 (nI 0)) 93 16 (-4) 100 j = if j = 31 then nI 8 else if j = 30 then nI 20 else I1 100 j := fun j => by
        rw [zpu_q _ _ _ (by decide), zpu_q _ _ _ (by decide), zpu_q _ _ _ (by decide), zpu_q _ _ _ (by decide), zpu_q _ _ _ (by decide)]
        by_cases e1 : j = 31
        · subst e1; rw [zpu_s, if_pos rfl]
        · rw [zpu_k _ _ _ e1, if_neg e1]
          by_cases e2 : j = 30
          · subst e2; rw [zpu_s, if_pos rfl]
          · rw [zpu_k _ _ _ e2, if_neg e2]
      have z : ∀ j, j < 58 → j ≠ 30 → j ≠ 31 → zpu (zpu (zpu (zpu (zpu (zpu (zpu I1 100 30 (nI 20)) 100 31 (nI 8)) 93 9 (nI 0)) 93 10 (nI 0)) 93 14 (nI 0)) 93 15 (nI 0)) 93 16 (-4) 100 j = nI 0 := fun j a b c => by rw [q100, if_neg c, if_neg b]; exact h1 j a
      refine hq _ ⟨⟨⟨fun a ha => absurd ha (Nat.not_lt_zero a), fun j hj => z _ (by omega) (by omega) (by omega), by rw [q100]; rfl, by rw [q100]; rfl, z _ (by decide) (by decide) (by decide), z _ (by decide) (by decide) (by decide), z _ (by decide) (by decide) (by decide)⟩, ⟨z _ (by decide) (by decide) (by decide), z _ (by decide) (by decide) (by decide), fun i hi => absurd hi (Nat.not_lt_zero i), z _ (by decide) (by decide) (by decide), fun i hi => absurd hi (Nat.not_lt_zero i), fun i hi => absurd hi (Nat.not_lt_zero i)⟩⟩, ?_, ?_, fun i hi => absurd hi (Nat.not_lt_zero i), fun i hi => absurd hi (Nat.not_lt_zero i), fun i hi => absurd hi (Nat.not_lt_zero i), ?_, ?_, ?_⟩ (fun q a b => ?_) (fun j a => ?_)
      · rw [zpu_k _ _ _ (by decide), zpu_k _ _ _ (by decide), zpu_k _ _ _ (by decide), zpu_k _ _ _ (by decide), zpu_s]; rfl
      · rw [zpu_k _ _ _ (by decide), zpu_k _ _ _ (by decide), zpu_k _ _ _ (by decide), zpu_s]; rfl
      · rw [zpu_k _ _ _ (by decide), zpu_k _ _ _ (by decide), zpu_s]; rfl
      · rw [zpu_k _ _ _ (by decide), zpu_s]; rfl
      · rw [zpu_s]; exact ⟨fun _ => by decide, fun y => absurd rfl y⟩
      · rw [zpu_q _ _ _ a, zpu_q _ _ _ a, zpu_q _ _ _ a, zpu_q _ _ _ a, zpu_q _ _ _ a, zpu_q _ _ _ b, zpu_q _ _ _ b]; exact h2 q b
      · rw [zpu_k _ _ _ (by omega), zpu_k _ _ _ (by omega), zpu_k _ _ _ (by omega), zpu_k _ _ _ (by omega), zpu_k _ _ _ (by omega), zpu_q _ _ _ (by decide), zpu_q _ _ _ (by decide), h2 93 (by decide)]
    | succ k ih =>
      intro i I1 hi h1 h2
      refine Zp.iload_n k_133_2 rfl ?_
      refine Zp.bipush (nI 58) k_133_3 (by decide) ?_
      refine Zp.icmp_geN k_133_5 (by omega) (by omega) (fun c_5 => absurd c_5 (by omega)) (fun c_5 => ?_)
      refine Zp.aload_n k_133_8 rfl ?_
      refine Zp.getR k_133_9 rfl (zlt rfl) m_93 r_93_8 ?_
      refine Zp.iload_n k_133_12 rfl ?_
      refine Zp.iconst (nI 0) k_133_13 (by decide) ?_
      refine Zp.iast _ k_133_14 m_100 rfl (by omega) (zlt rfl) ?_
      refine Zp.iinc (nI (_ + 1)) [some (.ref _), some (.int _)] k_133_15 rfl (nI_1 _) (Nat.lt_of_lt_of_eq (zlt rfl : 1 < 2) vl_133.symm) rfl ?_
      refine Zp.goto k_133_18 ?_
      refine ih (i + 1) _ (by omega) (fun j hj => ?_) (fun q a => by rw [zpu_q _ _ _ a]; exact h2 q a)
      by_cases e : j = i
      · subst e; rw [zpu_s]
      · rw [zpu_k _ _ _ e]; exact h1 j (by omega)
  refine Zm.go [some (.ref _), none] vl_133 rfl ?_
  refine Zp.iconst (nI 0) k_133_0 (by decide) ?_
  refine Zp.istore_n [some (.ref _), some (.int _)] k_133_1 (Nat.lt_of_lt_of_eq (zlt rfl : 1 < 2) vl_133.symm) rfl ?_
  exact loop 58 0 I (by omega) (fun j hj => absurd hj (Nat.not_lt_zero j)) (fun _ _ => rfl)
theorem c_keepDraftM (dm : DM I D) (do_ : Do D) (hq : ∀ I', Km (I' 94) (dK D) → I' 93 3 = nI (sn (kS (dK D))) → I' 93 4 = nI (lc (kP (dK D))) → (∀ i, i < lc (kP (dK D)) → I' 97 i = nI (l1 (kP (dK D)) i)) → (∀ i, i < lc (kP (dK D)) → I' 98 i = nI (l2 (kP (dK D)) i)) → (∀ i, i < lc (kP (dK D)) → I' 99 i = nI (l3 (kP (dK D)) i)) → I' 96 0 = nI 0 → I' 96 1 = nI 0 → (∀ q, q ≠ 93 → (q < 94 ∨ 99 < q) → I' q = I q) → (∀ j, 4 < j → I' 93 j = I 93 j) → Q none I' L) : Zm G 134 [.ref 93] I L Q := by
  obtain ⟨d1, d2, d3, d4, d5, d6, d7, d8, d9⟩ := id do_
  have o1 := d1.1
  have d41 := d4.1
  obtain ⟨⟨m0, m1⟩, m2, m3, m4, m5, m6, m7, m8, m9⟩ := id dm
  have loop2 : ∀ k i (I1 : zI), i + k = lc (kP (dK D)) → Km (I1 94) (dK D) → I1 93 3 = nI (sn (kS (dK D))) → I1 93 4 = nI (lc (kP (dK D))) → (∀ j, j < i → I1 97 j = nI (l1 (kP (dK D)) j)) → (∀ j, j < i → I1 98 j = nI (l2 (kP (dK D)) j)) → (∀ j, j < i → I1 99 j = nI (l3 (kP (dK D)) j)) → (∀ q, q ≠ 93 → (q < 94 ∨ 99 < q) → I1 q = I q) → (∀ j, 4 < j → I1 93 j = I 93 j) → Zp G 134 44 [some (.ref 93), some (.int (nI i))] [] I1 L Q := by
    intro k
    induction k with
    | zero =>
      intro i I1 hi h0 h3 h4 h7 h8 h9 hfr hj
      have e : i = lc (kP (dK D)) := by omega
      subst e
      refine Zp.iload_n k_134_44 rfl ?_
      refine Zp.aload_n k_134_45 rfl ?_
      refine Zp.getV k_134_46 rfl (zlt rfl) m_93 h4 ?_
      refine Zp.icmp_geN k_134_49 (by omega) (by omega) (fun c_49 => ?_) (fun c_49 => absurd c_49 (by omega))
      refine Zp.aload_n k_134_94 rfl ?_
      refine Zp.getR k_134_95 rfl (zlt rfl) m_93 r_93_2 ?_
      refine Zp.iconst (nI 0) k_134_98 (by decide) ?_
      refine Zp.iconst (nI 0) k_134_99 (by decide) ?_
      refine Zp.zast _ k_134_100 m_96 rfl (by omega) (zlt rfl) (by decide) ?_
      refine Zp.aload_n k_134_101 rfl ?_
      refine Zp.getR k_134_102 rfl (zlt rfl) m_93 r_93_2 ?_
      refine Zp.iconst (nI 1) k_134_105 (by decide) ?_
      refine Zp.iconst (nI 0) k_134_106 (by decide) ?_
      refine Zp.zast _ k_134_107 m_96 rfl (by omega) (zlt rfl) (by decide) ?_
      refine Zp.vret k_134_108 vr_134 ?_
      refine hq _ (by rw [zpu_q _ _ _ (by decide), zpu_q _ _ _ (by decide)]; exact h0) (by rw [zpu_q _ _ _ (by decide), zpu_q _ _ _ (by decide)]; exact h3) (by rw [zpu_q _ _ _ (by decide), zpu_q _ _ _ (by decide)]; exact h4) (by rw [zpu_q _ _ _ (by decide), zpu_q _ _ _ (by decide)]; exact h7) (by rw [zpu_q _ _ _ (by decide), zpu_q _ _ _ (by decide)]; exact h8) (by rw [zpu_q _ _ _ (by decide), zpu_q _ _ _ (by decide)]; exact h9) (by rw [zpu_k _ _ _ (by decide), zpu_s]) (zpu_s _ _ _ _) (fun q a b => by rw [zpu_q _ _ _ (by omega), zpu_q _ _ _ (by omega)]; exact hfr q a b) (fun j a => by rw [zpu_q _ _ _ (by decide), zpu_q _ _ _ (by decide)]; exact hj j a)
    | succ k ih =>
      intro i I1 hi h0 h3 h4 h7 h8 h9 hfr hj
      have g1 : I1 101 i = nI (l1 (kP (dK D)) i) := by rw [hfr 101 (by decide) (by omega)]; exact m4 i (by omega)
      have g2 : I1 102 i = nI (l2 (kP (dK D)) i) := by rw [hfr 102 (by decide) (by omega)]; exact m5 i (by omega)
      have g3 : I1 103 i = nI (l3 (kP (dK D)) i) := by rw [hfr 103 (by decide) (by omega)]; exact m6 i (by omega)
      refine Zp.iload_n k_134_44 rfl ?_
      refine Zp.aload_n k_134_45 rfl ?_
      refine Zp.getV k_134_46 rfl (zlt rfl) m_93 h4 ?_
      refine Zp.icmp_geN k_134_49 (by omega) (by omega) (fun c_49 => absurd c_49 (by omega)) (fun c_49 => ?_)
      refine Zp.aload_n k_134_52 rfl ?_
      refine Zp.getR k_134_53 rfl (zlt rfl) m_93 r_93_5 ?_
      refine Zp.iload_n k_134_56 rfl ?_
      refine Zp.aload_n k_134_57 rfl ?_
      refine Zp.getR k_134_58 rfl (zlt rfl) m_93 r_93_11 ?_
      refine Zp.iload_n k_134_61 rfl ?_
      refine Zp.iald _ k_134_62 m_101 rfl (by omega) (zlt rfl) g1 ?_
      refine Zp.iast _ k_134_63 m_97 rfl (by omega) (zlt rfl) ?_
      refine Zp.aload_n k_134_64 rfl ?_
      refine Zp.getR k_134_65 rfl (zlt rfl) m_93 r_93_6 ?_
      refine Zp.iload_n k_134_68 rfl ?_
      refine Zp.aload_n k_134_69 rfl ?_
      refine Zp.getR k_134_70 rfl (zlt rfl) m_93 r_93_12 ?_
      refine Zp.iload_n k_134_73 rfl ?_
      refine Zp.iald _ k_134_74 m_102 rfl (by omega) (zlt rfl) ((congrFun (zpu_q I1 _ _ (by decide)) _).trans g2) ?_
      refine Zp.iast _ k_134_75 m_98 rfl (by omega) (zlt rfl) ?_
      refine Zp.aload_n k_134_76 rfl ?_
      refine Zp.getR k_134_77 rfl (zlt rfl) m_93 r_93_7 ?_
      refine Zp.iload_n k_134_80 rfl ?_
      refine Zp.aload_n k_134_81 rfl ?_
      refine Zp.getR k_134_82 rfl (zlt rfl) m_93 r_93_13 ?_
      refine Zp.iload_n k_134_85 rfl ?_
      refine Zp.iald _ k_134_86 m_103 rfl (by omega) (zlt rfl) ((congrFun ((zpu_q (zpu I1 97 i (nI (l1 (kP (dK D)) i))) _ _ (by decide)).trans (zpu_q I1 _ _ (by decide))) _).trans g3) ?_
      refine Zp.iast _ k_134_87 m_99 rfl (by omega) (zlt rfl) ?_
      refine Zp.iinc (nI (_ + 1)) [some (.ref _), some (.int _)] k_134_88 rfl (nI_1 _) (Nat.lt_of_lt_of_eq (zlt rfl : 1 < 2) vl_134.symm) rfl ?_
      refine Zp.goto k_134_91 ?_
      refine ih (i + 1) _ (by omega) (by rw [zpu_q _ _ _ (by decide), zpu_q _ _ _ (by decide), zpu_q _ _ _ (by decide)]; exact h0) (by rw [zpu_q _ _ _ (by decide), zpu_q _ _ _ (by decide), zpu_q _ _ _ (by decide)]; exact h3) (by rw [zpu_q _ _ _ (by decide), zpu_q _ _ _ (by decide), zpu_q _ _ _ (by decide)]; exact h4) (fun j hj2 => ?_) (fun j hj2 => ?_) (fun j hj2 => ?_) (fun q a b => by rw [zpu_q _ _ _ (by omega), zpu_q _ _ _ (by omega), zpu_q _ _ _ (by omega)]; exact hfr q a b) (fun j a => by rw [zpu_q _ _ _ (by decide), zpu_q _ _ _ (by decide), zpu_q _ _ _ (by decide)]; exact hj j a)
      · rw [zpu_q _ _ _ (by decide), zpu_q _ _ _ (by decide)]
        by_cases e : j = i
        · subst e; rw [zpu_s]
        · rw [zpu_k _ _ _ e]; exact h7 j (by omega)
      · rw [zpu_q _ _ _ (by decide)]
        by_cases e : j = i
        · subst e; rw [zpu_s]
        · rw [zpu_k _ _ _ e, zpu_q _ _ _ (by decide)]; exact h8 j (by omega)
      · by_cases e : j = i
        · subst e; rw [zpu_s]
        · rw [zpu_k _ _ _ e, zpu_q _ _ _ (by decide), zpu_q _ _ _ (by decide)]; exact h9 j (by omega)
  have loop : ∀ k i (I1 : zI), i + k = 58 → (∀ j, j < i → I1 94 j = I 100 j) → (∀ q, q ≠ 94 → I1 q = I q) → Zp G 134 2 [some (.ref 93), some (.int (nI i))] [] I1 L Q := by
    intro k
    induction k with
    | zero =>
      intro i I1 hi h1 h2
      have e : i = 58 := by omega
      subst e
      have g9 : I1 93 9 = nI (sn (kS (dK D))) := by rw [h2 93 (by decide)]; exact m2
      have g10 : I1 93 10 = nI (lc (kP (dK D))) := by rw [h2 93 (by decide)]; exact m3
      have mk : Km (I1 94) (dK D) := ⟨m0.fr o1 (fun j hj => h1 j (by omega)), m1.fr d6.1 (by omega) (fun j _ b => h1 j b)⟩
      refine Zp.iload_n k_134_2 rfl ?_
      refine Zp.bipush (nI 58) k_134_3 (by decide) ?_
      refine Zp.icmp_geN k_134_5 (by omega) (by omega) (fun c_5 => ?_) (fun c_5 => absurd c_5 (by omega))
      refine Zp.aload_n k_134_26 rfl ?_
      refine Zp.aload_n k_134_27 rfl ?_
      refine Zp.getV k_134_28 rfl (zlt rfl) m_93 g9 ?_
      refine Zp.putI k_134_31 rfl (zlt rfl) m_93 ?_
      refine Zp.aload_n k_134_34 rfl ?_
      refine Zp.aload_n k_134_35 rfl ?_
      refine Zp.getV k_134_36 rfl (zlt rfl) m_93 ((zpu_k I1 93 _ (by decide)).trans g10) ?_
      refine Zp.putI k_134_39 rfl (zlt rfl) m_93 ?_
      refine Zp.iconst (nI 0) k_134_42 (by decide) ?_
      refine Zp.istore_n [some (.ref _), some (.int _)] k_134_43 (Nat.lt_of_lt_of_eq (zlt rfl : 1 < 2) vl_134.symm) rfl ?_
      exact loop2 (lc (kP (dK D))) 0 _ (by omega) (by rw [zpu_q _ _ _ (by decide), zpu_q _ _ _ (by decide)]; exact mk) (by rw [zpu_k _ _ _ (by decide), zpu_s]) (zpu_s _ _ _ _) (fun j hj => absurd hj (Nat.not_lt_zero j)) (fun j hj => absurd hj (Nat.not_lt_zero j)) (fun j hj => absurd hj (Nat.not_lt_zero j)) (fun q a b => by rw [zpu_q _ _ _ a, zpu_q _ _ _ a]; exact h2 q (by omega)) (fun j a => by rw [zpu_k _ _ _ (by omega), zpu_k _ _ _ (by omega), h2 93 (by decide)])
    | succ k ih =>
      intro i I1 hi h1 h2
      refine Zp.iload_n k_134_2 rfl ?_
      refine Zp.bipush (nI 58) k_134_3 (by decide) ?_
      refine Zp.icmp_geN k_134_5 (by omega) (by omega) (fun c_5 => absurd c_5 (by omega)) (fun c_5 => ?_)
      refine Zp.aload_n k_134_8 rfl ?_
      refine Zp.getR k_134_9 rfl (zlt rfl) m_93 r_93_0 ?_
      refine Zp.iload_n k_134_12 rfl ?_
      refine Zp.aload_n k_134_13 rfl ?_
      refine Zp.getR k_134_14 rfl (zlt rfl) m_93 r_93_8 ?_
      refine Zp.iload_n k_134_17 rfl ?_
      refine Zp.iald _ k_134_18 m_100 rfl (by omega) (zlt rfl) rfl ?_
      refine Zp.iast _ k_134_19 m_94 rfl (by omega) (zlt rfl) ?_
      refine Zp.iinc (nI (_ + 1)) [some (.ref _), some (.int _)] k_134_20 rfl (nI_1 _) (Nat.lt_of_lt_of_eq (zlt rfl : 1 < 2) vl_134.symm) rfl ?_
      refine Zp.goto k_134_23 ?_
      refine ih (i + 1) _ (by omega) (fun j hj => ?_) (fun q a => by rw [zpu_q _ _ _ a]; exact h2 q a)
      by_cases e : j = i
      · subst e; rw [zpu_s, h2 100 (by decide)]
      · rw [zpu_k _ _ _ e]; exact h1 j (by omega)
  refine Zm.go [some (.ref _), none] vl_134 rfl ?_
  refine Zp.iconst (nI 0) k_134_0 (by decide) ?_
  refine Zp.istore_n [some (.ref _), some (.int _)] k_134_1 (Nat.lt_of_lt_of_eq (zlt rfl : 1 < 2) vl_134.symm) rfl ?_
  exact loop 58 0 I (by omega) (fun j hj => absurd hj (Nat.not_lt_zero j)) (fun _ _ => rfl)
theorem c_textM (tp : TpM I T) (to : To T)
    (hbad : ∀ c s I', prs T (T.1 + 1) D0 0 0 = .inl (c, s) → I' 93 23 = nI c → I' 93 18 = nI 0 → (∀ q, q ≠ 93 → (q < 100 ∨ 103 < q) → I' q = I q) → (∀ j, j < 9 ∨ 24 < j → I' 93 j = I 93 j) → Q (some (.int ((-10) - nI s))) I' L)
    (hok : ∀ D n I', prs T (T.1 + 1) D0 0 0 = .inr (D, n) → Km (I' 94) (dK D) → I' 93 3 = nI (sn (kS (dK D))) → I' 93 4 = nI (lc (kP (dK D))) → (∀ i, i < lc (kP (dK D)) → I' 97 i = nI (l1 (kP (dK D)) i)) → (∀ i, i < lc (kP (dK D)) → I' 98 i = nI (l2 (kP (dK D)) i)) → (∀ i, i < lc (kP (dK D)) → I' 99 i = nI (l3 (kP (dK D)) i)) → I' 96 0 = nI 0 → I' 96 1 = nI 0 → I' 93 23 = nI 0 → I' 93 18 = nI 0 → (∀ q, q ≠ 93 → (q < 94 ∨ 103 < q) → I' q = I q) → (∀ j, 24 < j → I' 93 j = I 93 j) → Q (some (.int (nI n))) I' L) : Zm G 153 [.ref 93] I L Q := by
  have o1 := to.1
  have endF : ∀ c s I2 (n : Nat), prs T (T.1 + 1) D0 0 0 = .inl (c, s) → FT I2 c s → FrB I I2 → Zp G 153 44 [some (.ref 93), some (.int (nI n))] [] I2 L Q := by
    intro c s I2 n hr ft f2
    have h1 := ft.1
    have h3 := ft.2.2.1
    have h4 := ft.2.2.2
    have h24 := ft.2.1
    refine Zp.aload_n k_153_44 rfl ?_
    refine Zp.getV k_153_45 rfl (zlt rfl) m_93 (by first | exact h1 | exact zku_r (by decide) h1) ?_
    refine Zp.if_neN k_153_48 (by omega) (fun c_48 => ?_) (fun c_48 => absurd c_48 (by omega))
    refine Zp.aload_n k_153_73 rfl ?_
    refine Zp.iconst (nI 0) k_153_74 (by decide) ?_
    refine Zp.putI k_153_75 rfl (zlt rfl) m_93 ?_
    refine Zp.aload_n k_153_78 rfl ?_
    refine Zp.getV k_153_79 rfl (zlt rfl) m_93 (by first | exact h1 | exact zku_r (by decide) h1) ?_
    refine Zp.if_leN k_153_82 (by omega) (fun c_82 => absurd c_82 (by omega)) (fun c_82 => ?_)
    refine Zp.bipush (-10) k_153_85 (by decide) ?_
    refine Zp.aload_n k_153_87 rfl ?_
    refine Zp.getV k_153_88 rfl (zlt rfl) m_93 (zku_r (by decide) h24) ?_
    refine Zp.isub k_153_91 ?_
    refine Zp.iret _ k_153_92 vr_153 rfl ?_
    exact hbad c s _ hr (by rw [zpu_k _ _ _ (by decide)]; exact h1) (zpu_s _ _ _ _) (fun q a b => by rw [zpu_q _ _ _ a]; exact f2.1 q a b) (fun j a => by rw [zpu_k _ _ _ (by omega)]; exact f2.2 j (by omega))
  have endO : ∀ D I2 (n : Nat), prs T (T.1 + 1) D0 0 0 = .inr (D, n) → Do D → DM I2 D → I2 93 23 = nI 0 → FrB I I2 → Zp G 153 73 [some (.ref 93), some (.int (nI n))] [] I2 L Q := by
    intro D I2 n hr do_ dm h1 f2
    have dm2 : DM (zpu I2 93 18 (nI 0)) D := by
      obtain ⟨m1, m2, m3, m4, m5, m6, m7, m8, m9⟩ := id dm
      exact ⟨by rw [zpu_q _ _ _ (by decide)]; exact m1, by rw [zpu_k _ _ _ (by decide)]; exact m2, by rw [zpu_k _ _ _ (by decide)]; exact m3, by rw [zpu_q _ _ _ (by decide)]; exact m4, by rw [zpu_q _ _ _ (by decide)]; exact m5, by rw [zpu_q _ _ _ (by decide)]; exact m6, by rw [zpu_k _ _ _ (by decide)]; exact m7, by rw [zpu_k _ _ _ (by decide)]; exact m8, by rw [zpu_k _ _ _ (by decide)]; exact m9⟩
    refine Zp.aload_n k_153_73 rfl ?_
    refine Zp.iconst (nI 0) k_153_74 (by decide) ?_
    refine Zp.putI k_153_75 rfl (zlt rfl) m_93 ?_
    refine Zp.aload_n k_153_78 rfl ?_
    refine Zp.getV k_153_79 rfl (zlt rfl) m_93 (zku_r (by decide) h1) ?_
    refine Zp.if_leN k_153_82 (by omega) (fun c_82 => ?_) (fun c_82 => absurd c_82 (by omega))
    refine Zp.aload_n k_153_93 rfl ?_
    refine Zp.callv0V v_134 k_153_94 m_93 (Nat.le_of_ble_eq_true rfl) (Nat.le_of_ble_eq_true rfl) (c_keepDraftM dm2 do_ (fun I3 k0 k3 k4 k7 k8 k9 k60 k61 kq kj => ⟨rfl, ?_⟩))
    refine Zp.iload_n k_153_97 rfl ?_
    refine Zp.iret _ k_153_98 vr_153 rfl ?_
    exact hok D n I3 hr k0 k3 k4 k7 k8 k9 k60 k61 (by rw [kj 23 (by decide), zpu_k _ _ _ (by decide)]; exact h1) (by rw [kj 18 (by decide), zpu_s]) (fun q a b => by rw [kq q a (by omega), zpu_q _ _ _ a]; exact f2.1 q a (by omega)) (fun j a => by rw [kj j (by omega), zpu_k _ _ _ (by omega)]; exact f2.2 j (by omega))
  have loop : ∀ k (D : zD) (p n : Nat) (I1 : zI), prs T k D p n = prs T (T.1 + 1) D0 0 0 → T.1 + 1 ≤ k + p → p ≤ T.1 → Do D → DM I1 D → RT I1 T p → FrB I I1 → Zp G 153 20 [some (.ref 93), some (.int (nI n))] [] I1 L Q := by
    intro k
    induction k with
    | zero => intro D p n I1 hr hk hp; exact absurd hk (by omega)
    | succ k ih =>
      intro D p n I1 hr hk hp do_ dm rt fb
      have t := tok_ok T hp
      have d8 := do_.2.2.2.2.2.2.2.1
      have n5 := do_.1.1
      have hu : prs T (k + 1) D p n = if (tok T p).1 = 3 then (if dh D ≤ sn (kS (dK D)) then .inr (D, n) else .inl (6, (tok T p).2.1)) else sbd (lnS T D (tok T p)) fun y => prs T k y.1 y.2 (n + 1) := rfl
      rcases rt.f with ⟨k4, h1, ft⟩ | ⟨k4, h1⟩
      · rw [if_neg (by omega)] at hu
        have hl : lnS T D (tok T p) = .inl (1, (tok T p).2.1) := if_pos k4
        have he : prs T (T.1 + 1) D0 0 0 = .inl (1, (tok T p).2.1) := by rw [← hr, hu]; exact sbd_l hl
        refine Zp.aload_n k_153_20 rfl ?_
        refine Zp.getV k_153_21 rfl (zlt rfl) m_93 h1 ?_
        refine Zp.if_neN k_153_24 (by omega) (fun c_24 => ?_) (fun c_24 => absurd c_24 (by omega))
        exact endF _ _ I1 n he ft fb
      · obtain ⟨w1, w2, w3, w4⟩ := rt.2.2 k4
        by_cases k3 : (tok T p).1 = 3
        · rw [if_pos k3] at hu
          have hsr : srt (tok T p).1 = 0 := by rw [k3]; rfl
          rw [hsr] at w3
          have hg := dm.2.2.2.2.2.2.2.2
          have m2 := dm.2.1
          have w20 := rt.1
          have ok : dh D ≤ sn (kS (dK D)) → Zp G 153 68 [some (.ref 93), some (.int (nI n))] [.int (nI 1), .ref 93] I1 L Q := by
            intro z
            rw [if_pos z] at hu
            refine Zp.bipush (nI 6) k_153_68 (by decide) ?_
            refine Zp.callv2V v_137 k_153_70 m_93 (Nat.le_of_ble_eq_true rfl) (Nat.le_of_ble_eq_true rfl) (c_needsM h1 (by decide) (by decide) w20 (fun z => ⟨rfl, ?_⟩) (fun z => absurd z (by decide)))
            exact endO D I1 n (by rw [← hr, hu]) do_ dm h1 fb
          have no : ¬ dh D ≤ sn (kS (dK D)) → Zp G 153 68 [some (.ref 93), some (.int (nI n))] [.int (nI 0), .ref 93] I1 L Q := by
            intro z
            rw [if_neg z] at hu
            have ft : FT (zpu (zpu I1 93 23 (nI 6)) 93 24 (nI (tok T p).2.1)) 6 (tok T p).2.1 := ⟨by rw [zpu_k _ _ _ (by decide), zpu_s], zpu_s _ _ _ _, by decide, by decide⟩
            have f1 := ft.1
            have f24 := ft.2.1
            have fb2 : FrB I (zpu (zpu I1 93 23 (nI 6)) 93 24 (nI (tok T p).2.1)) := fb.tr (((FrN.rf I1).pu _ (by decide)).pu _ (by decide)).h.w.b
            refine Zp.bipush (nI 6) k_153_68 (by decide) ?_
            refine Zp.callv2V v_137 k_153_70 m_93 (Nat.le_of_ble_eq_true rfl) (Nat.le_of_ble_eq_true rfl) (c_needsM h1 (by decide) (by decide) w20 (fun z => absurd z (by decide)) (fun z z2 => ⟨rfl, ?_⟩))
            refine Zp.aload_n k_153_73 rfl ?_
            refine Zp.iconst (nI 0) k_153_74 (by decide) ?_
            refine Zp.putI k_153_75 rfl (zlt rfl) m_93 ?_
            refine Zp.aload_n k_153_78 rfl ?_
            refine Zp.getV k_153_79 rfl (zlt rfl) m_93 (zku_r (by decide) f1) ?_
            refine Zp.if_leN k_153_82 (by omega) (fun c_82 => absurd c_82 (by omega)) (fun c_82 => ?_)
            refine Zp.bipush (-10) k_153_85 (by decide) ?_
            refine Zp.aload_n k_153_87 rfl ?_
            refine Zp.getV k_153_88 rfl (zlt rfl) m_93 (zku_r (by decide) f24) ?_
            refine Zp.isub k_153_91 ?_
            refine Zp.iret _ k_153_92 vr_153 rfl ?_
            exact hbad 6 _ _ (by rw [← hr, hu]) (by rw [zpu_k _ _ _ (by decide)]; exact f1) (zpu_s _ _ _ _) (fun q a b => by rw [zpu_q _ _ _ a]; exact fb2.1 q a b) (fun j a => by rw [zpu_k _ _ _ (by omega)]; exact fb2.2 j (by omega))
          refine Zp.aload_n k_153_20 rfl ?_
          refine Zp.getV k_153_21 rfl (zlt rfl) m_93 h1 ?_
          refine Zp.if_neN k_153_24 (by omega) (fun c_24 => absurd c_24 (by omega)) (fun c_24 => ?_)
          refine Zp.aload_n k_153_27 rfl ?_
          refine Zp.getV k_153_28 rfl (zlt rfl) m_93 w3 ?_
          refine Zp.if_eqN k_153_31 (by omega) (fun c_31 => ?_) (fun c_31 => absurd c_31 (by omega))
          refine Zp.aload_n k_153_44 rfl ?_
          refine Zp.getV k_153_45 rfl (zlt rfl) m_93 h1 ?_
          refine Zp.if_neN k_153_48 (by omega) (fun c_48 => absurd c_48 (by omega)) (fun c_48 => ?_)
          refine Zp.aload_n k_153_51 rfl ?_
          refine Zp.aload_n k_153_52 rfl ?_
          refine Zp.getV k_153_53 rfl (zlt rfl) m_93 rfl ?_
          refine Zp.aload_n k_153_56 rfl ?_
          refine Zp.getV k_153_57 rfl (zlt rfl) m_93 m2 ?_
          refine Zp.icmp_geZ _ _ k_153_60 rfl (nI_toInt (by omega)) (fun c_60 => ?_) (fun c_60 => ?_)
          · refine Zp.iconst (nI 0) k_153_67 (by decide) ?_
            obtain ⟨y1, y2⟩ := hg
            by_cases h0 : dh D = 0
            · have y3 := y1 h0
              first | exact ok (by omega) | (exfalso; omega)
            · have y3 := y2 h0
              first | exact ok (by omega) | exact no (by omega)
          · refine Zp.iconst (nI 1) k_153_63 (by decide) ?_
            refine Zp.goto k_153_64 ?_
            obtain ⟨y1, y2⟩ := hg
            by_cases h0 : dh D = 0
            · have y3 := y1 h0
              first | exact ok (by omega) | (exfalso; omega)
            · have y3 := y2 h0
              first | exact ok (by omega) | exact no (by omega)
        · rw [if_neg k3] at hu
          have hsr : srt (tok T p).1 ≤ 3 ∧ ¬ srt (tok T p).1 = 0 := by
            unfold srt
            repeat' split
            all_goals omega
          have bad : ∀ c s' I2, lnS T D (tok T p) = .inl (c, s') → FT I2 c s' → FrB I1 I2 → Zp G 153 38 [some (.ref 93), some (.int (nI n))] [] I2 L Q := by
            intro c s' I2 hl ft f2
            have y1 := ft.1
            have y3 := ft.2.2.1
            have y4 := ft.2.2.2
            have he : prs T (T.1 + 1) D0 0 0 = .inl (c, s') := by rw [← hr, hu]; exact sbd_l hl
            refine Zp.iinc (nI (_ + 1)) [some (.ref _), some (.int _)] k_153_38 rfl (nI_1 _) (Nat.lt_of_lt_of_eq (zlt rfl : 1 < 2) vl_153.symm) rfl ?_
            refine Zp.goto k_153_41 ?_
            refine Zp.aload_n k_153_20 rfl ?_
            refine Zp.getV k_153_21 rfl (zlt rfl) m_93 y1 ?_
            refine Zp.if_neN k_153_24 (by omega) (fun c_24 => ?_) (fun c_24 => absurd c_24 (by omega))
            exact endF _ _ I2 (n + 1) he ft (fb.tr f2)
          have ok : ∀ D' p' I2, lnS T D (tok T p) = .inr (D', p') → DM I2 D' → RT I2 T p' → FrB I1 I2 → Zp G 153 38 [some (.ref 93), some (.int (nI n))] [] I2 L Q := by
            intro D' p' I2 hl dm2 rt2 f2
            have lo := lnS_ok hp do_ hl
            refine Zp.iinc (nI (_ + 1)) [some (.ref _), some (.int _)] k_153_38 rfl (nI_1 _) (Nat.lt_of_lt_of_eq (zlt rfl : 1 < 2) vl_153.symm) rfl ?_
            refine Zp.goto k_153_41 ?_
            exact ih D' p' (n + 1) I2 (by rw [← hr, hu, sbd_r hl]) (by omega) lo.2.2 lo.1 dm2 rt2 (fb.tr f2)
          refine Zp.aload_n k_153_20 rfl ?_
          refine Zp.getV k_153_21 rfl (zlt rfl) m_93 h1 ?_
          refine Zp.if_neN k_153_24 (by omega) (fun c_24 => absurd c_24 (by omega)) (fun c_24 => ?_)
          refine Zp.aload_n k_153_27 rfl ?_
          refine Zp.getV k_153_28 rfl (zlt rfl) m_93 w3 ?_
          refine Zp.if_eqN k_153_31 (by omega) (fun c_31 => absurd c_31 (by omega)) (fun c_31 => ?_)
          refine Zp.aload_n k_153_34 rfl ?_
          refine Zp.callv0V v_152 k_153_35 m_93 (Nat.le_of_ble_eq_true rfl) (Nat.le_of_ble_eq_true rfl) (c_readLineM dm do_ (tp.b fb) to hp rt k3 k4 (fun c s' I2 hl ft f2 => ⟨rfl, bad c s' I2 hl ft f2⟩) (fun D' p' I2 hl dm2 rt2 f2 => ⟨rfl, ok D' p' I2 hl dm2 rt2 f2⟩))
          
  refine Zm.go [some (.ref _), none] vl_153 rfl ?_
  refine Zp.iconst (nI 0) k_153_0 (by decide) ?_
  refine Zp.istore_n [some (.ref _), some (.int _)] k_153_1 (Nat.lt_of_lt_of_eq (zlt rfl : 1 < 2) vl_153.symm) rfl ?_
  refine Zp.aload_n k_153_2 rfl ?_
  refine Zp.iconst (nI 0) k_153_3 (by decide) ?_
  refine Zp.putI k_153_4 rfl (zlt rfl) m_93 ?_
  refine Zp.aload_n k_153_7 rfl ?_
  refine Zp.iconst (nI 0) k_153_8 (by decide) ?_
  refine Zp.putI k_153_9 rfl (zlt rfl) m_93 ?_
  refine Zp.aload_n k_153_12 rfl ?_
  refine Zp.callv0V v_133 k_153_13 m_93 (Nat.le_of_ble_eq_true rfl) (Nat.le_of_ble_eq_true rfl) (c_firstDraftM (fun I1 dm1 fq fj => ⟨rfl, ?_⟩))
  refine Zp.aload_n k_153_16 rfl ?_
  refine Zp.callv0V v_142 k_153_17 m_93 (Nat.le_of_ble_eq_true rfl) (Nat.le_of_ble_eq_true rfl) (c_nextM (p := 0) (T := T) ⟨by rw [fj 18 (by omega), zpu_k _ _ _ (by decide), zpu_k _ _ _ (by decide)]; exact tp.1, by rw [fq 104 (by decide) (by decide), zpu_q _ _ _ (by decide), zpu_q _ _ _ (by decide)]; exact tp.2⟩ to (Nat.zero_le _) (by rw [fj 23 (by omega), zpu_k _ _ _ (by decide), zpu_s]) (by rw [fj 19 (by omega), zpu_s]) (fun I2 rt2 f2 => ⟨rfl, ?_⟩))
  exact loop (T.1 + 1) D0 0 0 I2 rfl (by omega) (Nat.zero_le _) D0_o (dm1.n f2) rt2 ⟨fun q a b => by rw [f2.1 q a, fq q a (by omega), zpu_q _ _ _ a, zpu_q _ _ _ a], fun j a => by rw [f2.2 j (by omega), fj j (by omega), zpu_k _ _ _ (by omega), zpu_k _ _ _ (by omega)]⟩
end TEXTM
