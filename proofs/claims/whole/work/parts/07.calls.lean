/-! WALKS: arrays made, copies, calls, contracts -/
section ZCALLS
variable {G : zG} {mid pc pc' : Nat} {lo : List (Option Value)} {st : List Value} {w : zW} {kc ks : Nat} {Q : Option Value → zW → Prop} {a : List Nat}
theorem zK.push {ac : Nat → ClassId} {w' : zW} {s : State} {cn n : Nat} {cA : ClassId} (hK : zK G ac w s) (hT : w'.1 = w.1 ++ [(cn, n)]) (k : va_K (gD G) vwCl ([] ++ [(cA, zat cn)]) s) : zK G (va_up ac w.1.length cA) w' s := by
  refine ⟨hK.1, fun k' e' hk' h12 => ?_⟩
  rw [hT] at hk'
  by_cases hl' : k' < w.1.length
  · rw [List.getElem?_append_left hl'] at hk'
    rw [va_up_n _ _ (by omega)]
    exact hK.2 k' e' hk' h12
  · rw [List.getElem?_append_right (by omega)] at hk'
    have h0 : k' - w.1.length = 0 := by have := (List.getElem?_eq_some_iff.mp hk').1; simp at this; omega
    rw [h0] at hk'
    cases hk'
    have e : k' = w.1.length := by omega
    rw [e, va_up_s]
    exact k.2 0 (cA, zat cn) rfl
/-- a new array of ints, bytes or booleans -/
theorem ZW.newa {t : ArrayType} {h0 cn N : Nat} {n : Int32} (h : zIn mid pc pc' (.newarray t) 2 [h0]) (hcn : 50 ≤ cn) (hcn2 : cn < 53) (hty : newarray.typeOf t = zat cn) (hn : n = nI N) (hN : N ≤ 100000) (hL : w.1.length < 1000000)
    (kk : ZW G mid pc' lo (.ref w.1.length :: st) (w.1 ++ [(cn, N)], va_up w.2.1 w.1.length (fun _ => 0), w.2.2.1, w.2.2.2) kc ks Q) : ZW G mid pc lo (.int n :: st) w (kc + 1) (ks + N) Q := by
  obtain ⟨-, rfl⟩ := id h
  subst hn
  have hck := h.ck.2
  simp only [zCkI, List.getD_cons_zero] at hck
  intro p l e R s m args below meth c H locs cells slots ac ls Qf C hH h1 h2 hL2 hret
  obtain ⟨hP, hS, hK, hz⟩ := hH
  have hcl : (nI N).toNatClampNeg = N := nI_clamp (by omega)
  have hd : defaultValue (zat cn) = .int 0 := by
    have : cn = 50 ∨ cn = 51 ∨ cn = 52 := by omega
    rcases this with rfl | rfl | rfl <;> rfl
  have hcb : componentBytes (zat cn) ≤ 4 := by
    have : cn = 50 ∨ cn = 51 ∨ cn = 52 := by omega
    rcases this with rfl | rfl | rfl <;> decide
  refine va_newa (a0 := (N, .inl (fun _ => 0))) C.1 C.2.1 (C.2.2.2.2.1 _ (zHas_mem hck)) hty hK.1 hP zwl_D hS C.hA (fun cA => by rw [hd]; rfl) (nI_pos (by omega)) hcl (Nat.le_trans (Nat.mul_le_mul hN hcb) (by decide)) (by omega) (by omega) h.dec (fun q cA H1 a0 a1 a2 a3 => ?_)
  refine W.sz fun hs => ?_
  have hq := znew_at hz a1 a2 hs
  subst hq
  rw [zwl_push (va_up ac w.1.length cA) (w' := (w.1 ++ [(cn, N)], va_up w.2.1 w.1.length (fun _ => 0), w.2.2.1, w.2.2.2)) (e := (cn, N)) rfl (by rw [zce_arr (by omega) (by omega)]; show Sum.inl (va_up ac w.1.length cA w.1.length, N, Sum.inl (va_up w.2.1 w.1.length (fun _ => 0) w.1.length)) = _; rw [va_up_s, va_up_s]) (fun q' e' hl' _ => zce_cong (va_up_n _ _ (by omega)) (va_up_n _ _ (by omega)) rfl rfl)] at a1
  have key := kk p l e R s m args below meth c H1 locs (cells + 1) (slots + N) _ ls Qf C ⟨a1, a3, hK.push rfl a0, by show _ = gb G + (w.1 ++ [(cn, N)]).length; rw [List.length_append]; simp; omega⟩ (by omega) (by omega) hL2 hret
  rw [List.map_cons, zrl_ref G hL] at key
  exact key
/-- a new array of objects of the class ci -/
theorem ZW.newq {idx ci h1' h2' N : Nat} {n : Int32} (h : zIn mid pc pc' (.anewarray idx) 3 [ci, h1', h2']) (hc : ci < 12) (hn : n = nI N) (hN : N ≤ 100000) (hL : w.1.length < 1000000)
    (kk : ZW G mid pc' lo (.ref w.1.length :: st) (w.1 ++ [(53 + ci, N)], w.2.1, w.2.2.1, va_up w.2.2.2 w.1.length (fun _ => none)) kc ks Q) : ZW G mid pc lo (.int n :: st) w (kc + 1) (ks + N) Q := by
  obtain ⟨-, rfl⟩ := id h
  subst hn
  have hck := h.ck.2
  simp only [zCkI, List.getD_cons_zero, List.getD_cons_succ, Bool.and_eq_true, decide_eq_true_eq] at hck
  obtain ⟨-, k1, k2⟩ := hck
  intro p l e R s m args below meth c H locs cells slots ac ls Qf C hH h1 h2 hL2 hret
  obtain ⟨hP, hS, hK, hz⟩ := hH
  have hcl : (nI N).toNatClampNeg = N := nI_clamp (by omega)
  refine va_newq (C := (zcl ci).1) C.1 C.2.1 C.2.2.2.1 (C.2.2.2.2.1 _ (zHas_mem k1)) (C.2.2.2.2.2.2.1.2.2.2.2.2.2.2.2 _ (zHasA_mem k2)) hK.1 hP zwl_D hS C.hA (nI_pos (by omega)) hcl (by omega) (by omega) (by omega) h.dec (fun q cA H1 a0 a1 a2 a3 => ?_)
  refine W.sz fun hs => ?_
  have hq := znew_at hz a1 a2 hs
  subst hq
  have hzat : zat (53 + ci) = .object (zcl ci).1 := by rw [zat_ref (by omega), show 53 + ci - 53 = ci by omega]
  rw [zwl_push (va_up ac w.1.length cA) (w' := (w.1 ++ [(53 + ci, N)], w.2.1, w.2.2.1, va_up w.2.2.2 w.1.length (fun _ => none))) (e := (53 + ci, N)) rfl (by rw [zce_ref (by omega)]; show Sum.inl (va_up ac w.1.length cA w.1.length, N, Sum.inr (Sum.inr (Sum.inr (Sum.inr (fun j => (va_up w.2.2.2 w.1.length (fun _ => none) w.1.length j).map (fun r => gb G + r)))))) = _; rw [va_up_s, va_up_s]; rfl) (fun q' e' hl' _ => zce_cong (va_up_n _ _ (by omega)) rfl rfl (va_up_n _ _ (by omega)))] at a1
  have key := kk p l e R s m args below meth c H1 locs (cells + 1) (slots + N) _ ls Qf C ⟨a1, a3, hK.push rfl (by rw [hzat]; exact a0), by show _ = gb G + (w.1 ++ [(53 + ci, N)]).length; rw [List.length_append]; simp; omega⟩ (by omega) (by omega) hL2 hret
  rw [List.map_cons, zrl_ref G hL] at key
  exact key
theorem zcats {st : List Value} (h : st.length ≤ 4) : ((st.map (zrl G)).map fun v => v.category).sum ≤ 8 := by
  have : ∀ l : List Value, (l.map fun v => v.category).sum ≤ 2 * l.length := by
    intro l
    induction l with
    | nil => simp
    | cons v t ih =>
      simp only [List.map_cons, List.sum_cons, List.length_cons]
      have : v.category ≤ 2 := by rcases lv_cat v with h | h <;> omega
      omega
  have := this (st.map (zrl G))
  rw [List.length_map] at this
  omega
theorem ZW.mmax {idx k1 k2 k3 k4 : Nat} {x y : Int32} (h : zIn mid pc pc' (.invokestatic idx) 3 [1000, k1, k2, k3, k4]) (hr : st.length ≤ 4) (kk : ZW G mid pc' lo (.int (if x < y then y else x) :: st) w kc ks Q) : ZW G mid pc lo (.int y :: .int x :: st) w kc ks Q := by
  obtain ⟨-, rfl⟩ := id h
  have hck := h.ck.2
  simp only [zCkI, List.getD_cons_zero, List.getD_cons_succ, Bool.and_eq_true, decide_eq_true_eq] at hck
  rw [if_neg (by decide), if_pos trivial] at hck
  obtain ⟨f1, f2, g1, g2, g3, g4⟩ := by simpa only [Bool.and_eq_true, decide_eq_true_eq] using hck
  intro p l e R s m args below meth c H locs cells slots ac ls Qf C hH h1 h2 hL hret
  have hc := zcats (G := G) hr
  have hf := C.2.2.2.2.2.2.2.1
  have hl := C.2.2.2.2.2.2.2.2
  exact va_mmax C.1 C.2.1 (C.2.2.1.trans hL.1.symm) C.2.2.2.1 (C.2.2.2.2.1 _ (zHas_mem g1)) (C.2.2.2.2.1 _ (zHas_mem g2)) (C.2.2.2.2.1 _ (zHas_mem g3)) (C.2.2.2.2.1 _ (zHas_mem g4)) (by omega) (by omega) (by omega) (by omega) h.dec (kk p l e R s m args below meth c H locs cells slots ac ls Qf C hH h1 h2 hL hret)
theorem ZW.mmin {idx k1 k2 k3 k4 : Nat} {x y : Int32} (h : zIn mid pc pc' (.invokestatic idx) 3 [1001, k1, k2, k3, k4]) (hr : st.length ≤ 4) (kk : ZW G mid pc' lo (.int (if y < x then y else x) :: st) w kc ks Q) : ZW G mid pc lo (.int y :: .int x :: st) w kc ks Q := by
  obtain ⟨-, rfl⟩ := id h
  have hck := h.ck.2
  simp only [zCkI, List.getD_cons_zero, List.getD_cons_succ, Bool.and_eq_true, decide_eq_true_eq] at hck
  rw [if_neg (by decide), if_neg (by decide), if_pos trivial] at hck
  obtain ⟨f1, f2, g1, g2, g3, g4⟩ := by simpa only [Bool.and_eq_true, decide_eq_true_eq] using hck
  intro p l e R s m args below meth c H locs cells slots ac ls Qf C hH h1 h2 hL hret
  have hc := zcats (G := G) hr
  have hf := C.2.2.2.2.2.2.2.1
  have hl := C.2.2.2.2.2.2.2.2
  exact va_mmin C.1 C.2.1 (C.2.2.1.trans hL.1.symm) C.2.2.2.1 (C.2.2.2.2.1 _ (zHas_mem g1)) (C.2.2.2.2.1 _ (zHas_mem g2)) (C.2.2.2.2.1 _ (zHas_mem g3)) (C.2.2.2.2.1 _ (zHas_mem g4)) (by omega) (by omega) (by omega) (by omega) h.dec (kk p l e R s m args below meth c H locs cells slots ac ls Qf C hH h1 h2 hL hret)
/-- System.arraycopy between arrays of ints -/
theorem ZW.copy {idx k1 k2 k3 k4 q0 q1 n0 n1 sp dp n : Nat} {x1 x2 x3 : Int32} (h : zIn mid pc pc' (.invokestatic idx) 3 [1002, k1, k2, k3, k4]) (hr : st.length ≤ 4) (hM0 : w.1[q0]? = some (50, n0)) (hM1 : w.1[q1]? = some (50, n1)) (hq0 : q0 < 1000000) (hq1 : q1 < 1000000)
    (e1 : x1 = nI sp) (e2 : x2 = nI dp) (e3 : x3 = nI n) (hs : sp + n ≤ n0) (hd : dp + n ≤ n1) (hb : n0 < 2 ^ 31) (hb1 : n1 < 2 ^ 31)
    (kk : ZW G mid pc' lo st (w.1, va_up w.2.1 q1 (va_cpy (w.2.1 q0) (w.2.1 q1) sp dp n), w.2.2.1, w.2.2.2) kc ks Q) : ZW G mid pc lo (.int x3 :: .int x2 :: .ref q1 :: .int x1 :: .ref q0 :: st) w kc ks Q := by
  obtain ⟨-, rfl⟩ := id h
  subst e1; subst e2; subst e3
  have hck := h.ck.2
  simp only [zCkI, List.getD_cons_zero, List.getD_cons_succ, Bool.and_eq_true, decide_eq_true_eq] at hck
  rw [if_neg (by decide), if_neg (by decide), if_neg (by decide), if_pos trivial] at hck
  obtain ⟨f1, f2, g1, g2, g3, g4⟩ := by simpa only [Bool.and_eq_true, decide_eq_true_eq] using hck
  intro p l e R s m args below meth c H locs cells slots ac ls Qf C hH h1 h2 hL hret
  have hc := zcats (G := G) hr
  have hf := C.2.2.2.2.2.2.2.1
  have hl := C.2.2.2.2.2.2.2.2
  have he0 := zwl_at (G := G) (ac := ac) hM0
  rw [zce_arr (by decide) (by decide)] at he0
  have he1 := zwl_at (G := G) (ac := ac) hM1
  rw [zce_arr (by decide) (by decide)] at he1
  have c1 : (nI sp).toNatClampNeg = sp := nI_clamp (by omega)
  have c2 : (nI dp).toNatClampNeg = dp := nI_clamp (by omega)
  have c3 : (nI n).toNatClampNeg = n := nI_clamp (by omega)
  rw [List.map_cons, List.map_cons, List.map_cons, List.map_cons, List.map_cons, zrl_ref G hq0, zrl_ref G hq1]
  refine va_copyi C.1 C.2.1 (C.2.2.1.trans hL.1.symm) C.2.2.2.1 (C.2.2.2.2.1 _ (zHas_mem g1)) (C.2.2.2.2.1 _ (zHas_mem g2)) (C.2.2.2.2.1 _ (zHas_mem g3)) (C.2.2.2.2.1 _ (zHas_mem g4)) (hH.2.2.1.two hM0 (Nat.le_of_ble_eq_true rfl) hM1 (Nat.le_of_ble_eq_true rfl)) hH.1 zwl_D hH.2.1 q0 q1 0 1 he0 he1 rfl rfl rfl (nI_pos (by omega)) (nI_pos (by omega)) (nI_pos (by omega)) (by rw [c1, c3]; exact hs) (by rw [c2, c3]; exact hd) (fun _ _ => rfl) (by omega) ?_ h.dec (fun H1 locs1 a1 _ a3 => ?_)
  · have hw : nativeFrameWords "java/lang/System" "arraycopy" 5 = 7 := by decide +kernel
    rw [hw]
    omega
  · rw [c1, c2, c3] at a1
    exact kk p l e R s m args below meth c H1 locs1 cells slots ac ls Qf C (hH.row hM1 (by decide) (by decide) a1 a3) h1 h2 hL hret
theorem ZW.oinit {idx k1 k2 k3 q : Nat} (h : zIn mid pc pc' (.invokespecial idx) 3 [1003, k1, k2, k3]) (hr : st.length ≤ 4) (hq : q < 1000000) (kk : ZW G mid pc' lo st w kc ks Q) : ZW G mid pc lo (.ref q :: st) w kc ks Q := by
  obtain ⟨-, rfl⟩ := id h
  have hck := h.ck.2
  simp only [zCkI, List.getD_cons_zero, List.getD_cons_succ] at hck
  rw [if_pos trivial] at hck
  obtain ⟨f1, f2, g1, g2, g3⟩ := by simpa only [Bool.and_eq_true, decide_eq_true_eq] using hck
  intro p l e R s m args below meth c H locs cells slots ac ls Qf C hH h1 h2 hL hret
  have hc := zcats (G := G) hr
  have hf := C.2.2.2.2.2.2.2.1
  have hl := C.2.2.2.2.2.2.2.2
  rw [List.map_cons, zrl_ref G hq]
  exact W.objInit C.1 C.2.1 C.2.2.2.1 (C.2.2.2.2.1 _ (zHas_mem g1)) (C.2.2.2.2.1 _ (zHas_mem g2)) (C.2.2.2.2.1 _ (zHas_mem g3)) rfl (hL.1.trans C.2.2.1.symm) rfl h.dec (by omega) (by have := lv_room (rest := st.map (zrl G)) (pc := pc) (m := m) (ls := ls) hc; show 2 * 0 + _ + 12 ≤ _; omega) (kk p l e R s m args below meth c H locs cells slots ac ls Qf C hH h1 h2 hL hret)
/-! contracts -/
def ZM (G : zG) (mid : Nat) (av : List Value) (w : zW) (kc ks : Nat) (Q : Option Value → zW → Prop) : Prop := ZW G mid 0 (zent av (zL mid)) [] w kc ks Q
def zws (mid : Nat) : List Cond := Cond.code (zy mid) (zb mid) (zL mid) (zr mid) :: zbig
def zPre (G : zG) (w : zW) (U : State) : Prop := U.heap.size = gb G + w.1.length ∧ zS G U U.heap ∧ ∃ ac : Nat → ClassId, va_P (gD G) vwCl (zwl G ac w) U.heap ∧ zK G ac w U
def zQ (G : zG) (Q : Option Value → zW → Prop) : Array Value → State → Outcome → State → Prop := fun _ st o t =>
  (∃ (r : Option Value) (w' : zW), o = .returned r ∧ (∀ v, r = some v → zrl G v = v) ∧ Q r w' ∧ ∃ ac' : Nat → ClassId, va_P (gD G) vwCl (zwl G ac' w') t.heap ∧ zK G ac' w' t) ∧ va_F (zA G) st t
theorem ZM.met {av : List Value} (hk : ZM G mid av w kc ks Q) (hlen : (zargs av).length ≤ zL mid) (l : Launch) :
    Met l (zy mid) (zws mid) ({ frames := zf mid, cells := kc, slots := ks, locals := zq mid }) (va_Pc (av.map (zrl G)) (zPre G w)) (zQ G Q) kc ks (zA G) := by
  refine Met.ofW (cc := zb mid) (maxL := zL mid) (ret := zr mid) (zpl mid) rfl ?_
  intro p e s m args below meth c s₁ B hml hv
  obtain ⟨rfl, hsz, hS0, ac, hP, hK⟩ := hv
  have hts := atoms_spec (ws := zws mid) B.pre
  have hl := lv_entry (av.map (zrl G)) (n := zL mid) (by rw [← zargs_len]; exact hlen)
  rw [lg_entry_eq]
  generalize (lg_sl (av.map (zrl G)) ++ List.replicate (zL mid - (lg_sl (av.map (zrl G))).length) Slot.unset).toArray = ls at hl ⊢
  refine hk p l e _ s m _ below meth c s.heap [] 0 0 ac ls _ ⟨B.exec, B.bytes, hml, findClass_of_methodNamed B.named, fun w hw => hts w (List.mem_cons_of_mem _ hw), fun _ => (name_of_methodNamed B.named B.method).1.trans (by assumption), hS0, Nat.le_refl _, Nat.le_refl _⟩ ⟨hP, va_S.rf, hK, by rw [Nat.add_zero]; exact hsz⟩ (by rw [Nat.zero_add]; exact Nat.le_refl _) (by rw [Nat.zero_add]; exact Nat.le_refl _) (zLh.ent hl) ?_
  intro r w' H' locs' cells' slots' ac' pc' ls' hq hH' hc1 hc2 hr
  have hlocks : meth.locks = false := B.notSynchronized
  refine W.widen (k := kc) (n := ks) hc1 hc2 ?_
  have fin : ∀ (o : Outcome) (t : State), t.heap = H' → s.WarmedH t.vm → o = .returned r → (∀ v, r = some v → zrl G v = v) → zQ G Q ((av.map (zrl G)).toArray) s o t := by
    intro o t ht hW ho hrl
    exact ⟨⟨r, w', ho, hrl, hq, ac', by rw [ht]; exact hH'.1, hH'.2.2.1.moved hW.alike⟩, hH'.2.1.F ht⟩
  match r, hr, fin with
  | none, hr, fin => exact W.vret B.exec B.bytes (B.returns.trans hr.1) (fun t ht hW => fin _ t ht hW rfl (fun v h => by cases h)) hH'.2.1.2.2 hr.2
  | some (.int v), hr, fin =>
    obtain ⟨⟨ty, h1, h2⟩, h3⟩ := hr
    exact W.zret (v := v) B.exec B.bytes (B.returns.trans h1) h2 (fun t ht hW => fin _ t ht hW rfl (fun v h => by cases h; rfl)) hH'.2.1.2.2 h3
  | some (.long v), hr, fin => exact W.lret (v := v) B.exec B.bytes (B.returns.trans hr.1) (fun t ht hW => fin _ t ht hW rfl (fun v h => by cases h; rfl)) hH'.2.1.2.2 hr.2
  | some .null, hr, _ => exact hr.elim
  | some (.ref _), hr, _ => exact hr.elim
  | some (.float _), hr, _ => exact hr.elim
  | some (.double _), hr, _ => exact hr.elim
  | some (.retAddr _), hr, _ => exact hr.elim
theorem zPre_blind {av : List Value} : FrameBlind (va_Pc av (zPre G w)) := by
  intro a U g mk q
  obtain ⟨q0, q1, q2, ac, q3, q4⟩ := q
  exact ⟨q0, q1, zS.moved (u := U) (U := U.calling g mk a) (State.WarmedH.refl U) q2 (Nat.le_refl _) (fun _ _ _ => rfl), ac, q3, zK.moved (u := U) (U := U.calling g mk a) (Vm.Alike.refl U.vm) q4⟩
/-- the world at a call -/
theorem zPre_of {p : Program} {R : Room} {s : State} {m : MethodId} {args : Array Value} {meth : Method} {c : Code} {H : Heap} {locs : List Loc} {cells : Nat} {ac : Nat → ClassId} (C : ZC G mid p R s m args meth c) (hH : ZH G ac w s H locs cells) (hs : H.size ≤ s.heap.size + cells) {U : State} (hU : U.heap = H) (hW : s.WarmedH U.vm) : zPre G w U := by
  obtain ⟨hP, hS, hK, hz⟩ := hH
  have hb := C.2.2.2.2.2.2.1.2.2.1
  refine ⟨?_, zS.moved hW C.2.2.2.2.2.2.1 (by rw [hU]; exact hS.1) (fun q h1 h2 => by rw [hU]; exact hS.2.1 q h1 h2), ac, by rw [hU]; exact hP, hK.moved hW.alike⟩
  rw [hU]
  have h1 := hS.1
  rcases Nat.eq_zero_or_pos w.1.length with h0 | h0
  · omega
  · have hk : w.1.length - 1 < w.1.length := by omega
    have hlt := (hP _ _ (zwl_at (G := G) (ac := ac) (List.getElem?_eq_getElem hk))).lt
    have hlt' : gb G + (w.1.length - 1) < H.size := hlt
    omega
/-- behind a call -/
theorem zcall {p : Program} {l : Launch} {e : Env} {R : Room} {s : State} {m : MethodId} {args : Array Value} {below : List Frame} {meth : Method} {c : Code} {H : Heap} {locs : List Loc} {cells slots mc ms : Nat} {Qf : State → Prop} {ls : Array Slot} {st0 rest : List Value} {a : Array Value} {Q1 : Option Value → zW → Prop}
    (hr : va_Run p l e R s m args below meth c H locs cells slots mc ms (F0 m pc ls st0) rest (zQ G Q1 a) (zA G)) (hS : va_S (zA G) s.heap H locs)
    (kk : ∀ (r : Option Value) (w' : zW) (ac' : Nat → ClassId) (H1 : Heap) (locs1 : List Loc), (∀ v, r = some v → zrl G v = v) → Q1 r w' → va_P (gD G) vwCl (zwl G ac' w') H1 → zK G ac' w' s → va_S (zA G) s.heap H1 locs1 →
      W p l e R s m args below meth c H1 locs1 (cells + mc) (slots + ms) Qf (F0 m (pc + 3) ls (r.toList ++ rest))) : W p l e R s m args below meth c H locs cells slots Qf (F0 m pc ls st0) := by
  intro T hT X
  obtain ⟨v, st₀, t, T', L, h0, X', hL, e1, e2, ⟨⟨r, w', hv, hrl, hq, ac', hP', hK'⟩, hz, hk⟩, st⟩ := hr T hT X
  cases hv
  rw [h0] at hz hk
  have hal : s.vm.Alike t.vm := by rw [← e2]; exact X'.warmed.alike
  obtain ⟨t2, a1, b1⟩ := kk v w' ac' T'.heap (locs ++ L) hrl hq (by rw [e1]; exact hP') (hK'.moved hal.symm)
    ⟨Nat.le_trans hS.1 (by rw [e1]; exact hz), fun q h1 h2 => by rw [e1, hk q (Nat.lt_of_lt_of_le h1 hS.1) h2]; exact hS.2.1 q h1 h2, fun q hq => by
      rcases List.mem_append.mp hq with h | h
      · exact hS.2.2 q h
      · exact hL q h⟩ T' rfl X'
  exact ⟨t2, st t2 a1, b1⟩
theorem zbig_good {ws : List Cond} (h : ∀ w ∈ ws, w ∈ zbig) : GoodIn zbig ws := fun w hw => ⟨h w hw, good_of_word (List.mem_filter.mp (h w hw)).2⟩
theorem zret_map {r : Option Value} {rest : List Value} (h : ∀ v, r = some v → zrl G v = v) : (r.toList ++ rest).map (zrl G) = r.toList ++ rest.map (zrl G) := by
  cases r with
  | none => rfl
  | some v =>
    show zrl G v :: rest.map (zrl G) = v :: rest.map (zrl G)
    rw [h v rfl]
theorem ZW.after {p : Program} {l : Launch} {e : Env} {R : Room} {s : State} {m : MethodId} {args : Array Value} {below : List Frame} {meth : Method} {c : Code} {H1 : Heap} {locs1 : List Loc} {cells slots c1 s1 : Nat} {ac' : Nat → ClassId} {ls : Array Slot} {Qf : State → Prop} {r : Option Value} {w' : zW} {rest : List Value}
    (kk : ZW G mid pc' lo (r.toList ++ rest) w' kc ks Q) (hrl : ∀ v, r = some v → zrl G v = v) (hw : w'.1.length = w.1.length + c1) (hz : s.heap.size + cells = gb G + w.1.length) (a1 : va_P (gD G) vwCl (zwl G ac' w') H1) (a2 : zK G ac' w' s) (a3 : va_S (zA G) s.heap H1 locs1) (C : ZC G mid p R s m args meth c) (h1 : cells + (c1 + kc) ≤ R.cells) (h2 : slots + (s1 + ks) ≤ R.slots) (hL : zLh G (zL mid) lo ls)
    (hret : ∀ (r : Option Value) (w' : zW) (H' : Heap) (locs' : List Loc) (cells' slots' : Nat) (ac' : Nat → ClassId) (pc' : Nat) (ls' : Array Slot), Q r w' → ZH G ac' w' s H' locs' cells' → cells' ≤ R.cells → slots' ≤ R.slots → zRet mid pc' r → W p l e R s m args below meth c H' locs' cells' slots' Qf (F0 m pc' ls' r.toList)) :
    W p l e R s m args below meth c H1 locs1 (cells + c1) (slots + s1) Qf (F0 m pc' ls (r.toList ++ rest.map (zrl G))) := by
  have key := kk p l e R s m args below meth c H1 locs1 (cells + c1) (slots + s1) ac' ls Qf C ⟨a1, a3, a2, by omega⟩ (by omega) (by omega) hL hret
  rw [zret_map hrl] at key
  exact key
/-- a call of an instance's method -/
theorem ZW.callv {idx t k1 k2 k3 n k5 k6 q cn nn c1 s1 : Nat} {As rest : List Value} {Q1 : Option Value → zW → Prop} (h : zIn mid pc pc' (.invokevirtual idx) 3 [t, k1, k2, k3, n, k5, k6]) (ht : t < 1000) (hcn : cn < 12) (hcl : (zy t).cls = (zcl cn).1) (hM : w.1[q]? = some (cn, nn)) (hq : q < 1000000) (hn : As.length = n) (hr : rest.length ≤ 4) (hlen : (zargs (.ref q :: As)).length ≤ zL t)
    (hk : ZM G t (.ref q :: As) w c1 s1 Q1) (hQ : ∀ r w', Q1 r w' → w'.1.length = w.1.length + c1) (kk : ∀ r w', Q1 r w' → ZW G mid pc' lo (r.toList ++ rest) w' kc ks Q) : ZW G mid pc lo (As.reverse ++ .ref q :: rest) w (c1 + kc) (s1 + ks) Q := by
  obtain ⟨-, rfl⟩ := id h
  have hck := h.ck.2
  have hne : ¬ t = 9999 := by omega
  simp only [zCkI, zCal, List.getD_cons_zero, List.getD_cons_succ, Bool.and_eq_true, Bool.or_eq_true, decide_eq_true_eq, hne, false_or] at hck
  obtain ⟨⟨g1, g2, g3, g4, g5, g6, g7⟩, g8, g9, g10⟩ := hck
  intro p l e R s m args below meth c H locs cells slots ac ls Qf C hH h1 h2 hL hret
  refine W.sz fun hs => ?_
  have hc := zcats (G := G) hr
  have hf := C.2.2.2.2.2.2.2.1
  have hl := C.2.2.2.2.2.2.2.2
  have hT : GoodIn zbig (wsV (zy mid).cls idx (zy t).cls (zy t) (zws t)) := zbig_good fun w hw => by
    unfold wsV zws at hw
    simp only [List.mem_append, List.mem_cons, List.not_mem_nil, or_false] at hw
    rcases hw with (rfl | rfl | rfl | rfl) | rfl | hw
    · exact zHas_mem g8
    · exact zHas_mem g9
    · exact zHas_mem g10
    · exact zHas_mem g2
    · exact zHas_mem g1
    · exact hw
  have he := zwl_at (G := G) (ac := ac) hM
  rw [zce_obj hcn] at he
  rw [List.map_append, List.map_reverse, List.map_cons, zrl_ref G hq]
  refine zcall (va_runV (rest := rest.map (zrl G)) (As := As.map (zrl G)) ⟨C.1, C.2.1, C.2.2.1, C.2.2.2.1, C.2.2.2.2.1⟩ (hk.met hlen l) (cwV n C.2.2.2.2.1 hT rfl rfl rfl ⟨rfl, g3, g4, g5⟩ ⟨by show zf t + 1 ≤ R.frames; omega, by show 8 + (zL t + 11) + zq t ≤ R.locals; omega⟩) ⟨by rw [List.map_cons, zrl_ref G hq]; exact zPre_blind, ?_, fun U hU hW => ⟨by rw [List.map_cons, zrl_ref G hq], zPre_of C hH hs hU hW⟩⟩ rfl (by rw [List.length_map]; exact hn) hL.1 rfl (lv_room hc) h.dec ⟨by omega, by omega⟩) hH.2.1 (fun r w' ac' H1 locs1 hrl hq1 a1 a2 a3 => ?_)
  · rw [hcl]
    exact va_recv hH.2.2.1.1 hH.1 (zcl_at cn hcn) he
  · exact ZW.after (kk r w' hq1) hrl (hQ r w' hq1) hH.2.2.2 a1 a2 a3 C h1 h2 hL hret
/-- a call of a static method -/
theorem ZW.calls {idx t k1 k2 k3 n k5 c1 s1 : Nat} {As rest : List Value} {Q1 : Option Value → zW → Prop} (h : zIn mid pc pc' (.invokestatic idx) 3 [t, k1, k2, k3, n, k5]) (ht : t < 1000) (hn : As.length = n) (hr : rest.length ≤ 4) (hlen : (zargs As).length ≤ zL t)
    (hk : ZM G t As w c1 s1 Q1) (hQ : ∀ r w', Q1 r w' → w'.1.length = w.1.length + c1) (kk : ∀ r w', Q1 r w' → ZW G mid pc' lo (r.toList ++ rest) w' kc ks Q) : ZW G mid pc lo (As.reverse ++ rest) w (c1 + kc) (s1 + ks) Q := by
  obtain ⟨-, rfl⟩ := id h
  have hck := h.ck.2
  simp only [zCkI, zCal, List.getD_cons_zero, List.getD_cons_succ] at hck
  rw [if_neg (by omega), if_neg (by omega), if_neg (by omega), if_neg (by omega)] at hck
  obtain ⟨⟨g1, g2, g3, g4, g5, g6, g7⟩, g8, g9⟩ := by simpa only [Bool.and_eq_true, decide_eq_true_eq] using hck
  intro p l e R s m args below meth c H locs cells slots ac ls Qf C hH h1 h2 hL hret
  refine W.sz fun hs => ?_
  have hc := zcats (G := G) hr
  have hf := C.2.2.2.2.2.2.2.1
  have hl := C.2.2.2.2.2.2.2.2
  have hT : GoodIn zbig (va_wsS (zy mid).cls idx (zy t) (zws t)) := zbig_good fun w hw => by
    unfold va_wsS zws at hw
    simp only [List.mem_append, List.mem_cons, List.not_mem_nil, or_false] at hw
    rcases hw with (rfl | rfl | rfl) | rfl | hw
    · exact zHas_mem g8
    · exact zHas_mem g9
    · exact zHas_mem g2
    · exact zHas_mem g1
    · exact hw
  rw [List.map_append, List.map_reverse]
  exact zcall (va_runS (rest := rest.map (zrl G)) (As := As.map (zrl G)) ⟨C.1, C.2.1, C.2.2.1, C.2.2.2.1, C.2.2.2.2.1⟩ (hk.met hlen l) (va_cwS n C.2.2.2.2.1 hT rfl rfl rfl ⟨g3, g4, g5⟩ ⟨by show zf t + 1 ≤ R.frames; omega, by show 8 + (zL t + 11) + zq t ≤ R.locals; omega⟩) ⟨zPre_blind, fun U hU hW => ⟨rfl, zPre_of C hH hs hU hW⟩⟩ rfl (by rw [List.length_map]; exact hn) hL.1 rfl (lv_room hc) h.dec ⟨by omega, by omega⟩) hH.2.1 (fun r w' ac' H1 locs1 hrl hq1 a1 a2 a3 => ZW.after (kk r w' hq1) hrl (hQ r w' hq1) hH.2.2.2 a1 a2 a3 C h1 h2 hL hret)
end ZCALLS
