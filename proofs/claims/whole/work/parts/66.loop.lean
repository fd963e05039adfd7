/-! THE LAW: its loop, its start -/
section LOOP
variable {G : zG}
theorem law_loop (hs : gsL G ≤ 320) : ∀ (k i : Nat) (A : zQs) (I : zI) (L : zJ), gsL G < i + k → i ≤ gsL G → Ao A → PicC A I → PicM A I → Zp G 229 18 [some (.ref 1000000), some (.ref 0), some (.ref 93), some (.int (nI i))] [] I L (fun r _ _ => r = some (.int 1)) := by
  intro k
  induction k with
  | zero => intro i A I L hk hi; exact absurd hk (by omega)
  | succ k ih =>
  intro i A I L hk hi2 ho pc pm
  refine Zp.iload_n k_229_18 rfl ?_
  refine Zp.aload_n k_229_19 rfl ?_
  refine Zp.slen k_229_20 ?_
  refine Zp.iconst (nI 5) k_229_21 (by decide) ?_
  refine Zp.isub k_229_22 ?_
  refine Zp.icmp_gtZ (i : Int) ((gsL G : Int) - 5) k_229_23 (nI_toInt (by omega)) (zsubt (by omega) (by decide)) (fun c => ?_) (fun c => ?_)
  · refine Zp.iconst (nI 1) k_229_1510 (by decide) ?_
    exact Zp.iret _ k_229_1511 vr_229 rfl rfl
  have hi : i + 5 ≤ gsL G := by omega
  refine Zp.aload_n k_229_26 rfl ?_
  refine Zp.iload_n k_229_27 rfl ?_
  refine Zp.sld k_229_28 (vp_in_nI (by omega) (by omega)) ?_
  refine Zp.bipush (nI 63) k_229_29 (by decide) ?_
  refine Zp.iand k_229_31 ?_
  have hq : ∀ (A' : zQs) (I' : zI) (L' : zJ), Ao A' → PicC A' I' → PicM A' I' → Zp G 229 1504 [some (.ref 1000000), some (.ref 0), some (.ref 93), some (.int (nI i))] [] I' L' (fun r _ _ => r = some (.int 1)) := by
    intro A' I' L' ho' pc' pm'
    refine Zp.iinc (nI (i + 5)) [some (.ref 1000000), some (.ref 0), some (.ref 93), some (.int (nI (i + 5)))] k_229_1504 rfl (by rw [show Int32.ofInt 5 = nI 5 by decide, nI_add]) (by rw [vl_229]; decide) rfl ?_
    refine Zp.goto k_229_1507 ?_
    exact ih (i + 5) A' I' L' (by omega) hi ho' pc' pm'
  obtain ⟨j, hj, ej⟩ := and63 (gxs G (nI i).toNatClampNeg)
  rw [ej]
  have hx : (nI j).toInt = (j : Int) := nI_toInt (by omega)
  refine Zp.tabEq (j : Int) 0 216 k_229_32 hx (by decide) (by decide) rfl (by decide) (fun _ => lc_0 ho pc pm hi hs hq) (fun ne => ?_)
  have h1 : 1 ≤ j := by omega
  clear ne
  refine Zp.tabEq (j : Int) 1 239 k_229_32 hx (by decide) (by decide) rfl (by decide) (fun _ => lc_1 ho pc pm hi hs hq) (fun ne => ?_)
  have h2 : 2 ≤ j := by omega
  clear ne
  clear h1
  refine Zp.tabEq (j : Int) 2 262 k_229_32 hx (by decide) (by decide) rfl (by decide) (fun _ => lc_2 ho pc pm hi hs hq) (fun ne => ?_)
  have h3 : 3 ≤ j := by omega
  clear ne
  clear h2
  refine Zp.tabEq (j : Int) 3 275 k_229_32 hx (by decide) (by decide) rfl (by decide) (fun _ => lc_3 ho pc pm hi hs hq) (fun ne => ?_)
  have h4 : 4 ≤ j := by omega
  clear ne
  clear h3
  refine Zp.tabEq (j : Int) 4 288 k_229_32 hx (by decide) (by decide) rfl (by decide) (fun _ => lc_4 ho pc pm hi hs hq) (fun ne => ?_)
  have h5 : 5 ≤ j := by omega
  clear ne
  clear h4
  refine Zp.tabEq (j : Int) 5 311 k_229_32 hx (by decide) (by decide) rfl (by decide) (fun _ => lc_5 ho pc pm hi hs hq) (fun ne => ?_)
  have h6 : 6 ≤ j := by omega
  clear ne
  clear h5
  refine Zp.tabEq (j : Int) 6 334 k_229_32 hx (by decide) (by decide) rfl (by decide) (fun _ => lc_6 ho pc pm hi hs hq) (fun ne => ?_)
  have h7 : 7 ≤ j := by omega
  clear ne
  clear h6
  refine Zp.tabEq (j : Int) 7 377 k_229_32 hx (by decide) (by decide) rfl (by decide) (fun _ => lc_7 ho pc pm hi hs hq) (fun ne => ?_)
  have h8 : 8 ≤ j := by omega
  clear ne
  clear h7
  refine Zp.tabEq (j : Int) 8 410 k_229_32 hx (by decide) (by decide) rfl (by decide) (fun _ => lc_8 ho pc pm hi hs hq) (fun ne => ?_)
  have h9 : 9 ≤ j := by omega
  clear ne
  clear h8
  refine Zp.tabEq (j : Int) 9 433 k_229_32 hx (by decide) (by decide) rfl (by decide) (fun _ => lc_9 ho pc pm hi hs hq) (fun ne => ?_)
  have h10 : 10 ≤ j := by omega
  clear ne
  clear h9
  refine Zp.tabEq (j : Int) 10 476 k_229_32 hx (by decide) (by decide) rfl (by decide) (fun _ => lc_10 ho pc pm hi hs hq) (fun ne => ?_)
  have h11 : 11 ≤ j := by omega
  clear ne
  clear h10
  refine Zp.tabEq (j : Int) 11 499 k_229_32 hx (by decide) (by decide) rfl (by decide) (fun _ => lc_11 ho pc pm hi hs hq) (fun ne => ?_)
  have h12 : 12 ≤ j := by omega
  clear ne
  clear h11
  refine Zp.tabEq (j : Int) 12 532 k_229_32 hx (by decide) (by decide) rfl (by decide) (fun _ => lc_12 ho pc pm hi hs hq) (fun ne => ?_)
  have h13 : 13 ≤ j := by omega
  clear ne
  clear h12
  refine Zp.tabEq (j : Int) 13 555 k_229_32 hx (by decide) (by decide) rfl (by decide) (fun _ => lc_13 ho pc pm hi hs hq) (fun ne => ?_)
  have h14 : 14 ≤ j := by omega
  clear ne
  clear h13
  refine Zp.tabEq (j : Int) 14 588 k_229_32 hx (by decide) (by decide) rfl (by decide) (fun _ => lc_14 ho pc pm hi hs hq) (fun ne => ?_)
  have h15 : 15 ≤ j := by omega
  clear ne
  clear h14
  refine Zp.tabEq (j : Int) 15 621 k_229_32 hx (by decide) (by decide) rfl (by decide) (fun _ => lc_15 ho pc pm hi hs hq) (fun ne => ?_)
  have h16 : 16 ≤ j := by omega
  clear ne
  clear h15
  refine Zp.tabEq (j : Int) 16 654 k_229_32 hx (by decide) (by decide) rfl (by decide) (fun _ => lc_16 ho pc pm hi hs hq) (fun ne => ?_)
  have h17 : 17 ≤ j := by omega
  clear ne
  clear h16
  refine Zp.tabEq (j : Int) 17 677 k_229_32 hx (by decide) (by decide) rfl (by decide) (fun _ => lc_17 ho pc pm hi hs hq) (fun ne => ?_)
  have h18 : 18 ≤ j := by omega
  clear ne
  clear h17
  refine Zp.tabEq (j : Int) 18 710 k_229_32 hx (by decide) (by decide) rfl (by decide) (fun _ => lc_18 ho pc pm hi hs hq) (fun ne => ?_)
  have h19 : 19 ≤ j := by omega
  clear ne
  clear h18
  refine Zp.tabEq (j : Int) 19 743 k_229_32 hx (by decide) (by decide) rfl (by decide) (fun _ => lc_19 ho pc pm hi hs hq) (fun ne => ?_)
  have h20 : 20 ≤ j := by omega
  clear ne
  clear h19
  refine Zp.tabEq (j : Int) 20 766 k_229_32 hx (by decide) (by decide) rfl (by decide) (fun _ => lc_20 ho pc pm hi hs hq) (fun ne => ?_)
  have h21 : 21 ≤ j := by omega
  clear ne
  clear h20
  refine Zp.tabEq (j : Int) 21 809 k_229_32 hx (by decide) (by decide) rfl (by decide) (fun _ => lc_21 ho pc pm hi hs hq) (fun ne => ?_)
  have h22 : 22 ≤ j := by omega
  clear ne
  clear h21
  refine Zp.tabEq (j : Int) 22 842 k_229_32 hx (by decide) (by decide) rfl (by decide) (fun _ => lc_22 ho pc pm hi hs hq) (fun ne => ?_)
  have h23 : 23 ≤ j := by omega
  clear ne
  clear h22
  refine Zp.tabEq (j : Int) 23 885 k_229_32 hx (by decide) (by decide) rfl (by decide) (fun _ => lc_23 ho pc pm hi hs hq) (fun ne => ?_)
  have h24 : 24 ≤ j := by omega
  clear ne
  clear h23
  refine Zp.tabEq (j : Int) 24 918 k_229_32 hx (by decide) (by decide) rfl (by decide) (fun _ => lc_24 ho pc pm hi hs hq) (fun ne => ?_)
  have h25 : 25 ≤ j := by omega
  clear ne
  clear h24
  refine Zp.tabEq (j : Int) 25 941 k_229_32 hx (by decide) (by decide) rfl (by decide) (fun _ => lc_25 ho pc pm hi hs hq) (fun ne => ?_)
  have h26 : 26 ≤ j := by omega
  clear ne
  clear h25
  refine Zp.tabEq (j : Int) 26 964 k_229_32 hx (by decide) (by decide) rfl (by decide) (fun _ => lc_26 ho pc pm hi hs hq) (fun ne => ?_)
  have h27 : 27 ≤ j := by omega
  clear ne
  clear h26
  refine Zp.tabEq (j : Int) 27 987 k_229_32 hx (by decide) (by decide) rfl (by decide) (fun _ => lc_27 ho pc pm hi hs hq) (fun ne => ?_)
  have h28 : 28 ≤ j := by omega
  clear ne
  clear h27
  refine Zp.tabEq (j : Int) 28 1010 k_229_32 hx (by decide) (by decide) rfl (by decide) (fun _ => lc_28 ho pc pm hi hs hq) (fun ne => ?_)
  have h29 : 29 ≤ j := by omega
  clear ne
  clear h28
  refine Zp.tabEq (j : Int) 29 1043 k_229_32 hx (by decide) (by decide) rfl (by decide) (fun _ => lc_29 ho pc pm hi hs hq) (fun ne => ?_)
  have h30 : 30 ≤ j := by omega
  clear ne
  clear h29
  refine Zp.tabEq (j : Int) 30 1066 k_229_32 hx (by decide) (by decide) rfl (by decide) (fun _ => lc_30 ho pc pm hi hs hq) (fun ne => ?_)
  have h31 : 31 ≤ j := by omega
  clear ne
  clear h30
  refine Zp.tabEq (j : Int) 31 1109 k_229_32 hx (by decide) (by decide) rfl (by decide) (fun _ => lc_31 ho pc pm hi hs hq) (fun ne => ?_)
  have h32 : 32 ≤ j := by omega
  clear ne
  clear h31
  refine Zp.tabEq (j : Int) 32 1132 k_229_32 hx (by decide) (by decide) rfl (by decide) (fun _ => lc_32 ho pc pm hi hs hq) (fun ne => ?_)
  have h33 : 33 ≤ j := by omega
  clear ne
  clear h32
  refine Zp.tabEq (j : Int) 33 1186 k_229_32 hx (by decide) (by decide) rfl (by decide) (fun _ => lc_33 ho pc pm hi hs hq) (fun ne => ?_)
  have h34 : 34 ≤ j := by omega
  clear ne
  clear h33
  refine Zp.tabEq (j : Int) 34 1240 k_229_32 hx (by decide) (by decide) rfl (by decide) (fun _ => lc_34 ho pc pm hi hs hq) (fun ne => ?_)
  have h35 : 35 ≤ j := by omega
  clear ne
  clear h34
  refine Zp.tabEq (j : Int) 35 1283 k_229_32 hx (by decide) (by decide) rfl (by decide) (fun _ => lc_35 ho pc pm hi hs hq) (fun ne => ?_)
  have h36 : 36 ≤ j := by omega
  clear ne
  clear h35
  refine Zp.tabEq (j : Int) 36 1306 k_229_32 hx (by decide) (by decide) rfl (by decide) (fun _ => lc_36 ho pc pm hi hs hq) (fun ne => ?_)
  have h37 : 37 ≤ j := by omega
  clear ne
  clear h36
  refine Zp.tabEq (j : Int) 37 1329 k_229_32 hx (by decide) (by decide) rfl (by decide) (fun _ => lc_37 ho pc pm hi hs hq) (fun ne => ?_)
  have h38 : 38 ≤ j := by omega
  clear ne
  clear h37
  refine Zp.tabEq (j : Int) 38 1372 k_229_32 hx (by decide) (by decide) rfl (by decide) (fun _ => lc_38 ho pc pm hi hs hq) (fun ne => ?_)
  have h39 : 39 ≤ j := by omega
  clear ne
  clear h38
  refine Zp.tabEq (j : Int) 39 1415 k_229_32 hx (by decide) (by decide) rfl (by decide) (fun _ => lc_39 ho pc pm hi hs hq) (fun ne => ?_)
  have h40 : 40 ≤ j := by omega
  clear ne
  clear h39
  refine Zp.tabEq (j : Int) 40 1468 k_229_32 hx (by decide) (by decide) rfl (by decide) (fun _ => lc_40 ho pc pm hi hs hq) (fun ne => ?_)
  have h41 : 41 ≤ j := by omega
  clear ne
  clear h40
  refine Zp.tabEq (j : Int) 41 1481 k_229_32 hx (by decide) (by decide) rfl (by decide) (fun _ => lc_41 ho pc pm hi hs hq) (fun ne => ?_)
  have h42 : 42 ≤ j := by omega
  clear ne
  clear h41
  exact Zp.tabNo (j : Int) 1504 k_229_32 hx (by omega) (by decide) (hq A I L ho pc pm)
theorem law_start : ∀ G : zG, gsL G ≤ 320 → ∃ kc ks, kc ≤ 600000 ∧ ks ≤ 7302250 ∧ ZM G 229 [.ref 1000000] zw0 kc ks (fun r _ => r = some (.int 1)) := by
  intro G hs
  refine ⟨111, 1765, by decide, by decide, ?_⟩
  have s : zST 0 0 0 zw0 := ⟨rfl, fun e he => by simp at he, fun e he => by simp at he, fun q _ h => absurd h (Nat.not_lt_zero q)⟩
  refine ZS.ent [some (.ref 1000000), none, none, none] vl_229 rfl ?_
  refine ZS.new 1 110 1754 s k_229_0 (zlt rfl) m_0 rfl rfl rfl rfl (fun w s => ?_)
  refine ZW.dup k_229_3 rfl ?_
  refine ZS.call 93 93 102 18 765 s k_229_4 (zlt rfl) (zlt rfl) (by decide) (by rw [vl_73]; decide) (fun Q1 => i_X10_init_0 s) ⟨rfl, zlt rfl⟩ rfl rfl (fun w s => ?_)
  refine ZW.astore_n [some (.ref 1000000), some (.ref 0), none, none] (zlt rfl) k_229_7 (by rw [vl_229]; decide) rfl ?_
  refine ZS.new 94 17 729 s k_229_8 (zlt rfl) m_93 rfl rfl rfl rfl (fun w s => ?_)
  refine ZW.dup k_229_11 rfl ?_
  have hl := s.len (by decide)
  refine ZW.calli (As := []) (c1 := 17) (s1 := 729) (kc := 0) (ks := 0) (Q1 := fun r w' => r = none ∧ ∃ (I : zI) (L : zJ) (R : zR), Rok R ∧ PicC A0 I ∧ PicM A0 I ∧ w' = (M0, I, L, R)) k_229_12 (zlt rfl) (zlt rfl) rfl (by decide) (by rw [vl_130]; decide) (i_X11 s (fun I L R hR p1 p2 => ⟨rfl, I, L, R, hR, p1, p2, rfl⟩)) (fun r w' h => ?_) (fun r w' h => ?_)
  · obtain ⟨_, I, L, R, _, _, _, rfl⟩ := h
    have h2 : M0.length = 111 := by decide +kernel
    show M0.length = _
    omega
  · obtain ⟨rfl, I, L, R, hR, p1, p2, rfl⟩ := h
    refine ZW.astore_n [some (.ref 1000000), some (.ref 0), some (.ref 93), none] (zlt rfl) k_229_15 (by rw [vl_229]; decide) rfl ?_
    refine ZW.mono (fun r w' h => ?_) (Zp.iconst (Q := fun r _ _ => r = some (.int 1)) (nI 0) k_229_16 (by decide) (Zp.istore_n [some (.ref 1000000), some (.ref 0), some (.ref 93), some (.int (nI 0))] k_229_17 (by rw [vl_229]; decide) rfl (law_loop hs (gsL G + 1) 0 A0 I L (by omega) (Nat.zero_le _) A0_o p1 p2)) R hR)
    obtain ⟨_, _, _, q⟩ := h
    exact q
end LOOP
