/-! WALKS: constructors' calls, text constants, the law's entry -/
section ZTEXT
variable {G : zG} {mid pc pc' : Nat} {lo : List (Option Value)} {st : List Value} {w : zW} {kc ks : Nat} {Q : Option Value → zW → Prop} {a : List Nat}
theorem zNest_mem {y : MethodName} {own : String} {idx h : Nat} (hh : zNest y own idx h = true) : ∃ host, Cond.methodLinkNest own idx y host ∈ lw_tbl := by
  unfold zNest at hh
  split at hh
  · rename_i o i y2 ho e
    simp only [Bool.and_eq_true, decide_eq_true_eq] at hh
    obtain ⟨rfl, rfl, rfl⟩ := hh
    exact ⟨ho, zTab_mem (List.mem_of_getElem? e)⟩
  · cases hh
theorem zws_good {t h1 : Nat} (g1 : zHas h1 (.code (zy t) (zb t) (zL t) (zr t)) = true) : GoodIn zbig (zws t) := zbig_good fun w hw => by
  rcases List.mem_cons.mp hw with rfl | hw
  · exact zHas_mem g1
  · exact hw
/-- a constructor's call -/
theorem ZW.calli {idx t k1 k2 k3 n k5 k6 q c1 s1 : Nat} {As rest : List Value} {Q1 : Option Value → zW → Prop} (h : zIn mid pc pc' (.invokespecial idx) 3 [t, k1, k2, k3, n, k5, k6]) (ht : t < 1000) (hq : q < 1000000) (hn : As.length = n) (hr : rest.length ≤ 4) (hlen : (zargs (.ref q :: As)).length ≤ zL t)
    (hk : ZM G t (.ref q :: As) w c1 s1 Q1) (hQ : ∀ r w', Q1 r w' → w'.1.length = w.1.length + c1) (kk : ∀ r w', Q1 r w' → ZW G mid pc' lo (r.toList ++ rest) w' kc ks Q) : ZW G mid pc lo (As.reverse ++ .ref q :: rest) w (c1 + kc) (s1 + ks) Q := by
  obtain ⟨-, rfl⟩ := id h
  have hck := h.ck.2
  simp only [zCkI, zCal, List.getD_cons_zero, List.getD_cons_succ] at hck
  rw [if_neg (by omega)] at hck
  simp only [Bool.and_eq_true, decide_eq_true_eq] at hck
  obtain ⟨⟨g1, g2, g3, g4, g5, g6, g7⟩, g8, g9, g10, g11⟩ := hck
  intro p l e R s m args below meth c H locs cells slots ac ls Qf C hH h1 h2 hL hret
  refine W.sz fun hs => ?_
  have hc := zcats (G := G) hr
  have hf := C.2.2.2.2.2.2.2.1
  have hl := C.2.2.2.2.2.2.2.2
  have hM := hk.met hlen l
  have hpre : PreS s H (va_Pc ((Value.ref q :: As).map (zrl G)) (zPre G w)) (Value.ref (gb G + q) :: As.map (zrl G)) := ⟨zPre_blind, fun U hU hW => ⟨by rw [List.map_cons, zrl_ref G hq], zPre_of C hH hs hU hW⟩⟩
  rw [List.map_append, List.map_reverse, List.map_cons, zrl_ref G hq]
  by_cases h6 : k6 = 1
  · rw [if_pos h6] at g8
    obtain ⟨host, hmem⟩ := zNest_mem g8
    have hcn := va_cnB (bytes := zb t) (maxL := zL t) (ret := zr t) (rm := { frames := zf t, cells := c1, slots := s1, locals := zq t }) n C.2.2.2.2.1 (zws_good g1) rfl rfl rfl (C.2.2.2.2.2.2.1.2.2.2.2.2.2.2.1 _ _ _ _ hmem) (C.2.2.2.2.1 _ (zHas_mem g2)) ⟨g3, g4, g5⟩ ⟨by show zf t + 1 ≤ R.frames; omega, by show 8 + (zL t + 11) + zq t ≤ R.locals; omega⟩
    rw [g11] at hcn
    exact zcall (va_runIN (rest := rest.map (zrl G)) (As := As.map (zrl G)) ⟨C.1, C.2.1, C.2.2.1, C.2.2.2.1, C.2.2.2.2.1⟩ hM ⟨hcn, g10, C.2.2.2.2.1 _ (zHas_mem g9)⟩ hpre rfl (by rw [List.length_map]; exact hn) hL.1 rfl (lv_room hc) h.dec ⟨by omega, by omega⟩) hH.2.1 (fun r w' ac' H1 locs1 hrl hq1 a1 a2 a3 => ZW.after (kk r w' hq1) hrl (hQ r w' hq1) hH.2.2.2 a1 a2 a3 C h1 h2 hL hret)
  · rw [if_neg h6] at g8
    have g1' : Cond.code (zy t) (zb t) (zL t) none :: zbig = zws t := by unfold zws; rw [g11]
    have hcn := cwI (bytes := zb t) (maxL := zL t) (R := R) (rm := { frames := zf t, cells := c1, slots := s1, locals := zq t }) n C.2.2.2.2.1 (zws_good g1) g1'.symm rfl rfl (C.2.2.2.2.1 _ (zHas_mem g2)) (C.2.2.2.2.1 _ (zHas_mem g8)) (C.2.2.2.2.1 _ (zHas_mem g9)) g10 ⟨g3, g4, g5⟩ ⟨by show zf t + 1 ≤ R.frames; omega, by show 8 + (zL t + 11) + zq t ≤ R.locals; omega⟩
    exact zcall (va_runI (rest := rest.map (zrl G)) (As := As.map (zrl G)) ⟨C.1, C.2.1, C.2.2.1, C.2.2.2.1, C.2.2.2.2.1⟩ hM hcn hpre rfl (by rw [List.length_map]; exact hn) hL.1 rfl (lv_room hc) h.dec ⟨by omega, by omega⟩) hH.2.1 (fun r w' ac' H1 locs1 hrl hq1 a1 a2 a3 => ZW.after (kk r w' hq1) hrl (hQ r w' hq1) hH.2.2.2 a1 a2 a3 C h1 h2 hL hret)
/-! texts: the i-th constant is the reference 1000001 + i, its bytes 1000101 + i -/
theorem zrl_tx (G : zG) {i : Nat} (h : i < 9) : zrl G (.ref (1000001 + i)) = .ref (gK G i) := by
  unfold zrl
  dsimp only
  rw [if_neg (show ¬ 1000001 + i < 1000000 by omega), if_neg (show ¬ 1000001 + i = 1000000 by omega), if_pos (show 1000001 + i < 1000100 by omega), show 1000001 + i - 1000001 = i by omega]
theorem zrl_by (G : zG) {i : Nat} (h : i < 9) : zrl G (.ref (1000101 + i)) = .ref (gV G i) := by
  unfold zrl
  dsimp only
  rw [if_neg (show ¬ 1000101 + i < 1000000 by omega), if_neg (show ¬ 1000101 + i = 1000000 by omega), if_neg (show ¬ 1000101 + i < 1000100 by omega), if_pos (show 1000101 + i < 1000200 by omega), show 1000101 + i - 1000101 = i by omega]
theorem ZW.ldcT {idx k0 : Nat} (i : Nat) (hi : i < 9) (h : zIn mid pc pc' (.ldc idx) 2 [k0]) (hid : idx = zsidx.getD i 0) (hy : (zy mid).cls = "SpoonHates$Reader") (kk : ZW G mid pc' lo (.ref (1000001 + i) :: st) w kc ks Q) : ZW G mid pc lo st w kc ks Q := by
  obtain ⟨-, rfl⟩ := id h
  intro p l e R s m args below meth c H locs cells slots ac ls Qf C hH h1 h2 hL hret
  have key := kk p l e R s m args below meth c H locs cells slots ac ls Qf C hH h1 h2 hL hret
  rw [List.map_cons, zrl_tx G hi] at key
  subst hid
  exact va_ldcS C.1 C.2.1 (by rw [← hy]; exact C.2.2.2.1) (C.2.2.2.2.2.2.1.2.2.2.2.2.2.1 i hi) h.dec key
theorem ZW.getSV {idx k0 i k1 k2 k3 : Nat} (hi : i < 9) (h : zIn mid pc pc' (.getfield idx) 3 [k1, k2, k3]) (hw : zHas k0 (.fieldLink (zy mid).cls idx "java/lang/String" "value" "[B") = true) (kk : ZW G mid pc' lo (.ref (1000101 + i) :: st) w kc ks Q) : ZW G mid pc lo (.ref (1000001 + i) :: st) w kc ks Q := by
  obtain ⟨-, rfl⟩ := id h
  intro p l e R s m args below meth c H locs cells slots ac ls Qf C hH h1 h2 hL hret
  have key := kk p l e R s m args below meth c H locs cells slots ac ls Qf C hH h1 h2 hL hret
  rw [List.map_cons, zrl_by G hi] at key
  rw [List.map_cons, zrl_tx G hi]
  exact vk_getf C.1 C.2.1 (C.2.2.2.2.2.2.1.2.2.2.1.1 i hi).2.2.1 hH.2.1 C.2.2.2.1 (C.2.2.2.2.1 _ (zHas_mem hw)) (fun _ h9 => h9) h.dec key
theorem ZW.getSC {idx k0 i k1 k2 k3 : Nat} (hi : i < 9) (h : zIn mid pc pc' (.getfield idx) 3 [k1, k2, k3]) (hw : zHas k0 (.fieldLink (zy mid).cls idx "java/lang/String" "coder" "B") = true) (kk : ZW G mid pc' lo (.int 0 :: st) w kc ks Q) : ZW G mid pc lo (.ref (1000001 + i) :: st) w kc ks Q := by
  obtain ⟨-, rfl⟩ := id h
  intro p l e R s m args below meth c H locs cells slots ac ls Qf C hH h1 h2 hL hret
  rw [List.map_cons, zrl_tx G hi]
  exact vk_getf C.1 C.2.1 (C.2.2.2.2.2.2.1.2.2.2.1.1 i hi).2.1 hH.2.1 C.2.2.2.1 (C.2.2.2.2.1 _ (zHas_mem hw)) (fun _ h9 => h9) h.dec (kk p l e R s m args below meth c H locs cells slots ac ls Qf C hH h1 h2 hL hret)
theorem ZW.getCS {idx k0 : Nat} (h : zIn mid pc pc' (.getstatic idx) 3 a) (hw : zHas k0 (.fieldLink (zy mid).cls idx "java/lang/String" "COMPACT_STRINGS" "Z") = true) (kk : ZW G mid pc' lo (.int 1 :: st) w kc ks Q) : ZW G mid pc lo st w kc ks Q := by
  obtain ⟨-, rfl⟩ := id h
  intro p l e R s m args below meth c H locs cells slots ac ls Qf C hH h1 h2 hL hret
  exact va_gets C.1 C.2.1 C.2.2.2.2.2.2.1.2.2.2.2.1 hH.2.1 C.2.2.2.1 (C.2.2.2.2.1 _ (zHas_mem hw)) (fun _ h9 => h9) h.dec (kk p l e R s m args below meth c H locs cells slots ac ls Qf C hH h1 h2 hL hret)
theorem ZW.getSI {idx k0 : Nat} (h : zIn mid pc pc' (.getstatic idx) 3 a) (hw : zHas k0 (.fieldLink (zy mid).cls idx "jdk/internal/util/Preconditions" "SIOOBE_FORMATTER" "Ljava/util/function/BiFunction;") = true) (kk : ZW G mid pc' lo (.ref 1000300 :: st) w kc ks Q) : ZW G mid pc lo st w kc ks Q := by
  obtain ⟨-, rfl⟩ := id h
  intro p l e R s m args below meth c H locs cells slots ac ls Qf C hH h1 h2 hL hret
  exact va_gets C.1 C.2.1 C.2.2.2.2.2.2.1.2.2.2.2.2.1 hH.2.1 C.2.2.2.1 (C.2.2.2.2.1 _ (zHas_mem hw)) (fun _ h9 => h9) h.dec (kk p l e R s m args below meth c H locs cells slots ac ls Qf C hH h1 h2 hL hret)
theorem ZW.alenT {i : Nat} (hi : i < 9) (h : zIn mid pc pc' .arraylength 1 a) (kk : ZW G mid pc' lo (.int (nI (zslen.getD i 0)) :: st) w kc ks Q) : ZW G mid pc lo (.ref (1000101 + i) :: st) w kc ks Q := by
  obtain ⟨-, rfl⟩ := id h
  intro p l e R s m args below meth c H locs cells slots ac ls Qf C hH h1 h2 hL hret
  rw [List.map_cons, zrl_by G hi]
  exact va_tlen C.1 C.2.1 (C.2.2.2.2.2.2.1.2.2.2.1.1 i hi).2.2.2 hH.2.1 rfl h.dec (kk p l e R s m args below meth c H locs cells slots ac ls Qf C hH h1 h2 hL hret)
theorem ZW.baldT {i : Nat} {j : Int32} (hi : i < 9) (h : zIn mid pc pc' .baload 1 a) (hj : vp_in j (zslen.getD i 0)) (kk : ZW G mid pc' lo (.int ((zsbyt.getD i []).getD j.toNatClampNeg 0) :: st) w kc ks Q) : ZW G mid pc lo (.int j :: .ref (1000101 + i) :: st) w kc ks Q := by
  obtain ⟨-, rfl⟩ := id h
  intro p l e R s m args below meth c H locs cells slots ac ls Qf C hH h1 h2 hL hret
  rw [List.map_cons, List.map_cons, zrl_by G hi]
  exact va_tb C.1 C.2.1 (C.2.2.2.2.2.2.1.2.2.2.1.1 i hi).2.2.2 hH.2.1 hj rfl h.dec (kk p l e R s m args below meth c H locs cells slots ac ls Qf C hH h1 h2 hL hret)
/-- a call of a text's method -/
theorem ZW.callT {idx t k1 k2 k3 n k5 k6 i c1 s1 : Nat} {As rest : List Value} {Q1 : Option Value → zW → Prop} (hi : i < 9) (h : zIn mid pc pc' (.invokevirtual idx) 3 [t, k1, k2, k3, n, k5, k6]) (ht : t < 1000) (hcl : (zy t).cls = "java/lang/String") (hn : As.length = n) (hr : rest.length ≤ 4) (hlen : (zargs (.ref (1000001 + i) :: As)).length ≤ zL t)
    (hk : ZM G t (.ref (1000001 + i) :: As) w c1 s1 Q1) (hQ : ∀ r w', Q1 r w' → w'.1.length = w.1.length + c1) (kk : ∀ r w', Q1 r w' → ZW G mid pc' lo (r.toList ++ rest) w' kc ks Q) : ZW G mid pc lo (As.reverse ++ .ref (1000001 + i) :: rest) w (c1 + kc) (s1 + ks) Q := by
  obtain ⟨-, rfl⟩ := id h
  have hck := h.ck.2
  have hne : ¬ t = 9999 := by omega
  simp only [zCkI, zCal, List.getD_cons_zero, List.getD_cons_succ, Bool.and_eq_true, Bool.or_eq_true, decide_eq_true_eq, hne, false_or] at hck
  obtain ⟨⟨g1, g2, g3, g4, g5, g6, g7⟩, g8, g9, g10⟩ := hck
  intro p l e R s m args below meth c H locs cells slots ac ls Qf C hH h1 h2 hL hret
  refine W.sz fun hs => ?_
  have hc := zcats (G := G) hr
  have hf := C.2.2.2.2.2.2.2.1
  have hl := C.2.2.2.2.2.2.2.2
  have hT : GoodIn zbig (wsV (zy mid).cls idx (zy t).cls (zy t) (zws t)) := zbig_good fun w hw => by
    unfold wsV zws at hw
    simp only [List.mem_append, List.mem_cons, List.not_mem_nil, or_false] at hw
    rcases hw with (rfl | rfl | rfl | rfl) | rfl | hw
    · exact zHas_mem g8
    · exact zHas_mem g9
    · exact zHas_mem g10
    · exact zHas_mem g2
    · exact zHas_mem g1
    · exact hw
  rw [List.map_append, List.map_reverse, List.map_cons, zrl_tx G hi]
  refine zcall (va_runV (rest := rest.map (zrl G)) (As := As.map (zrl G)) ⟨C.1, C.2.1, C.2.2.1, C.2.2.2.1, C.2.2.2.2.1⟩ (hk.met hlen l) (cwV n C.2.2.2.2.1 hT rfl rfl rfl ⟨rfl, g3, g4, g5⟩ ⟨by show zf t + 1 ≤ R.frames; omega, by show 8 + (zL t + 11) + zq t ≤ R.locals; omega⟩) ⟨by rw [List.map_cons, zrl_tx G hi]; exact zPre_blind, ?_, fun U hU hW => ⟨by rw [List.map_cons, zrl_tx G hi], zPre_of C hH hs hU hW⟩⟩ rfl (by rw [List.length_map]; exact hn) hL.1 rfl (lv_room hc) h.dec ⟨by omega, by omega⟩) hH.2.1 (fun r w' ac' H1 locs1 hrl hq1 a1 a2 a3 => ?_)
  · rw [hcl]
    exact vk_recv C.2.2.2.2.2.2.1.2.2.2.1 hi hH.2.1
  · exact ZW.after (kk r w' hq1) hrl (hQ r w' hq1) hH.2.2.2 a1 a2 a3 C h1 h2 hL hret
end ZTEXT
/-! THE LAW'S ENTRY -/
def R_law : String := "SpoonHatesLaw"
def lw_P (b : Addr) (xs : List Int32) (args : Array Value) (s : State) : Prop := args = #[.ref b] ∧ s.IntsAt b xs ∧ xs.length ≤ 320 ∧ (Jvm.Cond.and given_1 narrow_1).before args s = true
def lw_Q (_ : Array Value) (s : State) (o : Outcome) (t : State) : Prop := o = .returned (some (.int 1)) ∧ Framed s o t [] 600000 7302250
def lw_Z (below : List Frame) (a : Array Value) (s : State) : State → Prop := fun t => ∃ o, t.status = .running ∧ Ended t below o ∧ lw_Q a s o t
/-- the law's own end, with 1 on the stack, nothing written that was there before, its room as the claim has it -/
theorem lw_ret {p : Program} {l : Launch} {e : Env} {s : State} {m : MethodId} {below : List Frame} {meth : Method} {c : Code} {b : Nat} (hx : p.tables.exec = Jvm.exec) (hb : c.code = code) (hr : meth.sig.returnType = ret) (hlocks : meth.locks = false) {pc : Nat} {H : Heap} {ls : Array Slot} (hdg : decode code pc = .ok (.ireturn, 1)) : W p l e room_1 s m #[Value.ref b] below meth c H [] 600000 7302250 (lw_Z below #[Value.ref b] s) (F0 m pc ls [.int 1]) := by
  intro T hT X
  obtain ⟨fs, hret, hrun, hended, hW, hframe⟩ := X.leave (v := some (.int 1)) (hlocks := hlocks) (fun h => by rw [hr] at h; cases h)
  have hmeth' : T.vm.method? m = some meth := X.method'
  refine ⟨T.setFrames fs, ?_, .returned (some (.int 1)), hrun, hended, rfl, ⟨_, rfl⟩, hW, hframe⟩
  jvm_step X.here [X.here.top, hx, hb, hdg, hmeth', hr, ret, narrow_b1]
  (try refine ⟨rfl, ?_⟩); (try refine ⟨rfl, ?_⟩)
  first | (intro acts; rw [hret _ acts rfl rfl rfl]) | rw [hret _ _ rfl rfl rfl]
  exact Steps.refl _
/-- what holds at the law's entry: the machine, the code, the tables' words (any of lw_tbl by 'hts w (by decide +kernel)'), the script of L ints xs at the cell b, what the Statement gives of the start (any of its parts by flat_of_before) -/
def lw_At (p : Program) (s : State) (m : MethodId) (meth : Method) (c : Code) (b L : Nat) (xs : Nat → Int32) : Prop :=
  p.tables.exec = Jvm.exec ∧ c.code = code ∧ meth.sig.returnType = ret ∧ c.maxLocals = 4 ∧ s.vm.findClass R_law = some m.cls ∧ (∀ w ∈ lw_tbl, w.before #[Value.ref b] s = true) ∧ va_X b L xs s s.heap ∧ b < s.heap.size ∧ meth.locks = false ∧ (Jvm.Cond.and given_1 narrow_1).before #[Value.ref b] s = true
theorem zbig_sub {w : Cond} (h : w ∈ zbig) : w ∈ lw_tbl := (List.mem_filter.mp h).1
theorem zlaw_b : zb 229 = code := rfl
theorem zlaw_L : zL 229 = 4 := rfl
theorem zlaw_c : (zy 229).cls = R_law := rfl
theorem zlaw_n : (zy 229).name = "law" := rfl
theorem zlaw_f : zf 229 ≤ 12 ∧ zq 229 ≤ 426 := by decide +kernel
def zF : List Cond := flatC (Jvm.Cond.and given_1 narrow_1)
theorem zF_ex : ∀ i, i < 9 → Cond.exactly (.string "SpoonHates$Reader" (zsidx.getD i 0)) "java/lang/String" ∈ zF := by decide +kernel
theorem zF_co : ∀ i, i < 9 → Cond.eq (.field (.string "SpoonHates$Reader" (zsidx.getD i 0)) "java/lang/String" "coder" "B") (.int 0) ∈ zF := by decide +kernel
theorem zF_ar : ∀ i, i < 9 → Cond.arrayOf (.field (.string "SpoonHates$Reader" (zsidx.getD i 0)) "java/lang/String" "value" "[B") .byte ∈ zF := by decide +kernel
theorem zF_le : ∀ i, i < 9 → Cond.eq (.length (.field (.string "SpoonHates$Reader" (zsidx.getD i 0)) "java/lang/String" "value" "[B")) (.int (Int32.ofNat (zslen.getD i 0))) ∈ zF := by decide +kernel
theorem zF_el : ∀ i, i < 9 → ∀ j, j < zslen.getD i 0 → Cond.eq (.elem (.field (.string "SpoonHates$Reader" (zsidx.getD i 0)) "java/lang/String" "value" "[B") (.int (Int32.ofNat j))) (.int ((zsbyt.getD i []).getD j 0)) ∈ zF := by decide +kernel
theorem zF_ne : ∀ i, i < 9 → ∀ j, j < 9 → i ≠ j → Cond.not (Cond.eq (.string "SpoonHates$Reader" (zsidx.getD i 0)) (.string "SpoonHates$Reader" (zsidx.getD j 0))) ∈ zF ∨ Cond.not (Cond.eq (.string "SpoonHates$Reader" (zsidx.getD j 0)) (.string "SpoonHates$Reader" (zsidx.getD i 0))) ∈ zF := by decide +kernel
theorem zF_cs : Cond.eq (.static "java/lang/String" "COMPACT_STRINGS" "Z") (.int 1) ∈ zF := by decide +kernel
theorem zF_si : Cond.isRef (.static "jdk/internal/util/Preconditions" "SIOOBE_FORMATTER" "Ljava/util/function/BiFunction;") ∈ zF := by decide +kernel
theorem zT_cs : Cond.laysStatic "java/lang/String" "COMPACT_STRINGS" "Z" ∈ lw_tbl ∧ Cond.initialized "java/lang/String" ∈ lw_tbl ∧ Cond.laysStatic "jdk/internal/util/Preconditions" "SIOOBE_FORMATTER" "Ljava/util/function/BiFunction;" ∈ lw_tbl ∧ Cond.initialized "jdk/internal/util/Preconditions" ∈ lw_tbl := by decide +kernel
theorem zT_sr : ∀ i, i < 9 → Cond.stringRef "SpoonHates$Reader" (zsidx.getD i 0) (zstx.getD i "") ∈ lw_tbl := by decide +kernel
def zw0 : zW := ([], fun _ _ => 0, fun _ _ => 0, fun _ _ => none)
set_option maxHeartbeats 4000000 in
/-- the law's body, from its entry, out of a walk over the world -/
theorem zlaw_start {p : Program} {e : Env} {s : State} {m : MethodId} {below : List Frame} {meth : Method} {c : Code} (l : Launch) {b L : Nat} {xs : Nat → Int32} (hL : L ≤ 320) (C0 : lw_At p s m meth c b L xs)
    (hZ : ∀ G : zG, gsL G ≤ 320 → ∃ kc ks, kc ≤ 600000 ∧ ks ≤ 7302250 ∧ ZM G 229 [.ref 1000000] zw0 kc ks (fun r _ => r = some (.int 1))) :
    W p l e room_1 s m #[Value.ref b] below meth c s.heap [] 0 0 (lw_Z below #[Value.ref b] s) (entryFrame m ([Value.ref b] : List Value).toArray 4) := by
  obtain ⟨hx, hb, hr, hml, hown, hts, hX, hbl, hlocks, hgv⟩ := id C0
  have hs : ∀ q ∈ zF, q.before #[Value.ref b] s = true := flat_of_before _ hgv
  have hA : ∀ a : Nat, a < s.heap.size → ¬ (fun q : Nat => s.heap.size ≤ q) a := fun a h => Nat.not_le.mpr h
  have hkn : ∀ ci : Nat, ∃ q : ClassId × (Nat → Nat), ci < 12 → u_Kn s (zcl ci).1 (zcl ci).2.1 (zcl ci).2.2 q.1 q.2 := by
    intro ci
    by_cases h : ci < 12
    · obtain ⟨n, hn⟩ := zcl_inst ci h
      obtain ⟨cC, iS, hk⟩ := u_known hts (fun w hw => zbig_sub (zcl_ws ci h w hw)) (hts _ hn)
      exact ⟨(cC, iS), fun _ => hk⟩
    · exact ⟨(0, fun _ => 0), fun q => absurd q h⟩
  obtain ⟨D, hD⟩ := Classical.axiomOfChoice hkn
  obtain ⟨adK, adV, hvk, hst⟩ := vk_Sof (N := 9) (tm := fun i => .string "SpoonHates$Reader" (zsidx.getD i 0)) (len := zslen) (byt := zsbyt) (A := fun q : Nat => s.heap.size ≤ q) (args := #[Value.ref b]) (s := s)
    (by decide +kernel) (fun i hi => hs _ (zF_ex i hi)) (fun i hi => hs _ (zF_co i hi)) (fun i hi => hs _ (zF_ar i hi)) (fun i hi => hs _ (zF_le i hi)) (fun i hi j hj => hs _ (zF_el i hi j hj))
    (fun i j hi hj hij => (zF_ne i hi j hj hij).imp (fun h => hs _ h) (fun h => hs _ h)) hA
  have hz1 := va_Zof (A := fun q : Nat => s.heap.size ≤ q) (hts _ zT_cs.1) (hts _ zT_cs.2.1) (va_eqi (hs _ zF_cs)) hA
  have hz2 := va_Zqof (A := fun q : Nat => s.heap.size ≤ q) (hts _ zT_cs.2.2.1) (hts _ zT_cs.2.2.2) (hs _ zF_si) hA
  obtain ⟨gvo, hz3⟩ : ∃ o : Option Nat, va_Z "jdk/internal/util/Preconditions" "SIOOBE_FORMATTER" "Ljava/util/function/BiFunction;" (va_rf o) (fun q : Nat => s.heap.size ≤ q) s s.heap := by
    rcases hz2 with h | ⟨t, h⟩
    · exact ⟨none, h⟩
    · exact ⟨some t, h⟩
  obtain ⟨kc, ks, hkc, hks, hk⟩ := hZ ((fun c => (D c).1, fun c => (D c).2), s.heap.size, (b, L, xs), (adK, adV), gvo) hL
  have hK : va_K (fun c => (D c).1, fun c => (D c).2) vwCl [] s := by
    refine ⟨fun ci q hq => ?_, fun k q h => by simp at h⟩
    have hci : ci < 12 := (List.getElem?_eq_some_iff.mp hq).1
    have := hD ci hci
    rw [zcl_at ci hci] at hq
    cases hq
    exact this
  have hl := lv_entry ([.ref b]) (n := 4) (Nat.le_of_ble_eq_true rfl)
  rw [lg_entry_eq]
  generalize (lg_sl ([.ref b]) ++ List.replicate (4 - (lg_sl ([.ref b])).length) Slot.unset).toArray = ls at hl ⊢
  refine hk p l e room_1 s m #[Value.ref b] below meth c s.heap [] 0 0 (fun _ => 0) ls (lw_Z below #[Value.ref b] s) ⟨hx, by rw [zlaw_b]; exact hb, by rw [zlaw_L]; exact hml, by rw [zlaw_c]; exact hown, fun w hw => hts w (zbig_sub hw), fun hn => by rw [zlaw_n] at hn; exact absurd hn (by decide), ⟨hX, hbl, Nat.le_refl _, hvk, hz1, hz3, fun i hi => vk_R.of (hts _ (zT_sr i hi)) (hst i hi), fun a i x h hm => va_Nw.of rfl (hts _ hm), fun C hm => va_AO.of (hts _ hm)⟩, zlaw_f.1, zlaw_f.2⟩
    ⟨fun k q h => by simp [zwl, zw0] at h, va_S.rf, ⟨hK, fun k q h => by simp [zw0] at h⟩, rfl⟩ (by rw [Nat.zero_add]; exact hkc) (by rw [Nat.zero_add]; exact hks) (zLh.ent (av := [.ref 1000000]) hl) ?_
  intro r w' H' locs' cells' slots' ac' pc' ls' hq hH' hc1 hc2 hrt
  subst hq
  refine va_forget (fun q hq => hH'.2.1.2.2 q hq) ?_
  refine W.widen (k := 600000) (n := 7302250) hc1 hc2 ?_
  exact lw_ret hx hb hr hlocks (by have := hrt.2; rw [zlaw_b] at this; exact this)
