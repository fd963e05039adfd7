/-! WALKS: cells written and made -/
section ZCELLS
variable {G : zG} {mid pc pc' : Nat} {lo : List (Option Value)} {st : List Value} {w : zW} {kc ks : Nat} {Q : Option Value → zW → Prop} {a : List Nat}
theorem W.sz {p : Program} {l : Launch} {e : Env} {R : Room} {s : State} {m : MethodId} {args : Array Value} {below : List Frame} {meth : Method} {c : Code} {H : Heap} {locs : List Loc} {cells slots : Nat} {Qf : State → Prop} {g : JFrame} (k : H.size ≤ s.heap.size + cells → W p l e R s m args below meth c H locs cells slots Qf g) : W p l e R s m args below meth c H locs cells slots Qf g :=
  fun T hT X => k (by have := X.heapSize; rw [hT] at this; exact this) T hT X
/-- a field is written -/
theorem ZW.putf {idx ci k h0 q n : Nat} (v : Value) (w' : zW) (h : zIn mid pc pc' (.putfield idx) 3 [ci, k, h0]) (hc : ci < 12) (hM : w.1[q]? = some (ci, n)) (hq : q < 1000000)
    (hn : narrow (zty ci k) (zrl G v) = zrl G v) (hf : fits (zty ci k) (zrl G v) = true) (hT : w'.1 = w.1) (hx : zfv G ci w' q k = zrl G v) (ho1 : ∀ j, j ≠ k → zfv G ci w' q j = zfv G ci w q j)
    (ho : ∀ (ac : Nat → ClassId) (q' : Nat) (e' : Nat × Nat), q' ≠ q → w.1[q']? = some e' → zce G ac w' q' e' = zce G ac w q' e') (kk : ZW G mid pc' lo st w' kc ks Q) : ZW G mid pc lo (v :: .ref q :: st) w kc ks Q := by
  obtain ⟨-, rfl⟩ := id h
  have hck := h.ck.2
  simp only [zCkI, zFld, List.getD_cons_zero, List.getD_cons_succ, Bool.and_eq_true, Bool.or_eq_true, decide_eq_true_eq] at hck
  obtain ⟨⟨-, hk, hl⟩, hfin⟩ := hck
  intro p l e R s m args below meth c H locs cells slots ac ls Qf C hH h1 h2 hL hret
  obtain ⟨hP, hS, hK, hz⟩ := hH
  rw [List.map_cons, List.map_cons, zrl_ref G hq]
  have he := zwl_at (G := G) (ac := ac) hM
  rw [zce_obj hc] at he
  have hnew : ((List.range (zcl ci).2.2).map (zfv G ci w q)).set k (zrl G v) = (List.range (zcl ci).2.2).map (zfv G ci w' q) := by
    refine List.ext_getElem? fun i => ?_
    by_cases e1 : i = k
    · subst e1
      rw [List.getElem?_set_self (by simpa using hk), List.getElem?_map, List.getElem?_range hk, ← hx]
      rfl
    · rw [List.getElem?_set_ne (Ne.symm e1), List.getElem?_map, List.getElem?_map]
      by_cases hi : i < (zcl ci).2.2
      · rw [List.getElem?_range hi]
        exact congrArg some (ho1 i e1).symm
      · rw [List.getElem?_eq_none (by simpa using hi)]
        rfl
  have hset : (zwl G ac w).set q (gb G + q, .inr (ci, ((List.range (zcl ci).2.2).map (zfv G ci w q)).set k (zrl G v))) = zwl G ac w' := by
    rw [hnew]
    exact zwl_set hM hT (zce_obj hc) (fun q' e' => ho ac q' e')
  have fin : ∀ (H1 : Heap) (locs1 : List Loc), va_P (gD G) vwCl ((zwl G ac w).set q (gb G + q, .inr (ci, ((List.range (zcl ci).2.2).map (zfv G ci w q)).set k (zrl G v)))) H1 → va_D (zA G) ((zwl G ac w).set q (gb G + q, .inr (ci, ((List.range (zcl ci).2.2).map (zfv G ci w q)).set k (zrl G v)))) → va_S (zA G) s.heap H1 locs1 →
      W p l e R s m args below meth c H1 locs1 cells slots Qf (F0 m (pc + 3) ls (st.map (zrl G))) := by
    intro H1 locs1 a1 _ a3
    rw [hset] at a1
    exact kk p l e R s m args below meth c H1 locs1 cells slots ac ls Qf C ⟨a1, a3, ⟨hK.1, fun k' e' hk' => hK.2 k' e' (by rw [← hT]; exact hk')⟩, by rw [hT]; exact hz⟩ h1 h2 hL hret
  rcases hfin with hfin | ⟨hin, hde⟩
  · exact va_put (C := (zcl ci).1) (T := (zcl ci).2.1) (N := (zcl ci).2.2) C.1 C.2.1 C.2.2.2.2.1 (zcl_ws ci hc) (zty ci) (zcl_ty ci hc) (zcl_nm ci hc) C.2.2.2.1 hK.1 hP zwl_D hS q he (zcl_at ci hc) k hk (C.2.2.2.2.1 _ (zHas_mem hl)) (fun _ h9 => h9) hfin (zcl_ty ci hc k hk) hn hf (by simpa using hk) h.dec fin
  · by_cases hfin : (((zcl ci).2.1 k).2.2.2 = false)
    · exact va_put (C := (zcl ci).1) (T := (zcl ci).2.1) (N := (zcl ci).2.2) C.1 C.2.1 C.2.2.2.2.1 (zcl_ws ci hc) (zty ci) (zcl_ty ci hc) (zcl_nm ci hc) C.2.2.2.1 hK.1 hP zwl_D hS q he (zcl_at ci hc) k hk (C.2.2.2.2.1 _ (zHas_mem hl)) (fun _ h9 => h9) hfin (zcl_ty ci hc k hk) hn hf (by simpa using hk) h.dec fin
    · exact va_putF (C := (zcl ci).1) (T := (zcl ci).2.1) (N := (zcl ci).2.2) C.1 C.2.1 C.2.2.2.2.1 (zcl_ws ci hc) (zty ci) (zcl_ty ci hc) (zcl_nm ci hc) C.2.2.2.1 hK.1 hP zwl_D hS q he (zcl_at ci hc) k hk (C.2.2.2.2.1 _ (zHas_mem hl)) (fun _ h9 => h9) (by simpa using hfin) (C.2.2.2.2.2.1 hin) hde (zcl_ty ci hc k hk) hn hf (by simpa using hk) h.dec fin
theorem zfv_cong {ci : Nat} {w' : zW} {q j : Nat} (h1 : w'.2.1 q j = w.2.1 q j) (h2 : w'.2.2.1 q j = w.2.2.1 q j) (h3 : w'.2.2.2 q j = w.2.2.2 q j) : zfv G ci w' q j = zfv G ci w q j := by
  unfold zfv
  rw [h1, h2, h3]
theorem zce_cong {ac ac' : Nat → ClassId} {w' : zW} {q : Nat} {e : Nat × Nat} (h0 : ac' q = ac q) (h1 : w'.2.1 q = w.2.1 q) (h2 : w'.2.2.1 q = w.2.2.1 q) (h3 : w'.2.2.2 q = w.2.2.2 q) : zce G ac' w' q e = zce G ac w q e := by
  have hf : zfv G e.1 w' q = zfv G e.1 w q := funext fun j => zfv_cong (by rw [h1]) (by rw [h2]) (by rw [h3])
  unfold zce
  rw [hf, h0, h1, h3]
theorem va_up_s {α : Type} (f : Nat → α) (k : Nat) (v : α) : va_up f k v k = v := if_pos rfl
theorem va_up_n {α : Type} (f : Nat → α) {k j : Nat} (v : α) (h : j ≠ k) : va_up f k v j = f j := if_neg h
theorem upd_s (f : Nat → Int32) (k : Nat) (v : Int32) : upd f k v k = v := if_pos rfl
theorem upd_n (f : Nat → Int32) {k j : Nat} (v : Int32) (h : j ≠ k) : upd f k v j = f j := if_neg h
/-- an int field is written -/
theorem ZW.putI {idx ci k h0 q n : Nat} {x : Int32} (h : zIn mid pc pc' (.putfield idx) 3 [ci, k, h0]) (hc : ci < 12) (hf : zty ci k = .int) (hM : w.1[q]? = some (ci, n)) (hq : q < 1000000)
    (kk : ZW G mid pc' lo st (w.1, va_up w.2.1 q (upd (w.2.1 q) k x), w.2.2.1, w.2.2.2) kc ks Q) : ZW G mid pc lo (.int x :: .ref q :: st) w kc ks Q :=
  ZW.putf (.int x) (w.1, va_up w.2.1 q (upd (w.2.1 q) k x), w.2.2.1, w.2.2.2) h hc hM hq (by rw [hf]; rfl) (by rw [hf]; rfl) rfl (by rw [zfv_0 (by unfold zfk; rw [hf])]; show Value.int (va_up w.2.1 q _ q k) = _; rw [va_up_s, upd_s]; rfl)
    (fun j hj => zfv_cong (by show va_up w.2.1 q _ q j = _; rw [va_up_s, upd_n _ _ hj]) rfl rfl) (fun ac q' e' hne _ => zce_cong rfl (va_up_n _ _ hne) rfl rfl) kk
theorem ZW.putZ {idx ci k h0 q n : Nat} {x : Int32} (h : zIn mid pc pc' (.putfield idx) 3 [ci, k, h0]) (hc : ci < 12) (hf : zty ci k = .boolean) (hx : x = 0 ∨ x = 1) (hM : w.1[q]? = some (ci, n)) (hq : q < 1000000)
    (kk : ZW G mid pc' lo st (w.1, va_up w.2.1 q (upd (w.2.1 q) k x), w.2.2.1, w.2.2.2) kc ks Q) : ZW G mid pc lo (.int x :: .ref q :: st) w kc ks Q :=
  ZW.putf (.int x) (w.1, va_up w.2.1 q (upd (w.2.1 q) k x), w.2.2.1, w.2.2.2) h hc hM hq (by rw [hf]; rcases hx with rfl | rfl <;> rfl) (by rw [hf]; rcases hx with rfl | rfl <;> rfl) rfl (by rw [zfv_0 (by unfold zfk; rw [hf])]; show Value.int (va_up w.2.1 q _ q k) = _; rw [va_up_s, upd_s]; rfl)
    (fun j hj => zfv_cong (by show va_up w.2.1 q _ q j = _; rw [va_up_s, upd_n _ _ hj]) rfl rfl) (fun ac q' e' hne _ => zce_cong rfl (va_up_n _ _ hne) rfl rfl) kk
theorem ZW.putL {idx ci k h0 q n : Nat} {x : Int64} (h : zIn mid pc pc' (.putfield idx) 3 [ci, k, h0]) (hc : ci < 12) (hf : zty ci k = .long) (hM : w.1[q]? = some (ci, n)) (hq : q < 1000000)
    (kk : ZW G mid pc' lo st (w.1, w.2.1, va_up w.2.2.1 q (va_up (w.2.2.1 q) k x), w.2.2.2) kc ks Q) : ZW G mid pc lo (.long x :: .ref q :: st) w kc ks Q :=
  ZW.putf (.long x) (w.1, w.2.1, va_up w.2.2.1 q (va_up (w.2.2.1 q) k x), w.2.2.2) h hc hM hq (by rw [hf]; rfl) (by rw [hf]; rfl) rfl (by rw [zfv_1 (by unfold zfk; rw [hf])]; show Value.long (va_up w.2.2.1 q _ q k) = _; rw [va_up_s, va_up_s]; rfl)
    (fun j hj => zfv_cong rfl (by show va_up w.2.2.1 q _ q j = _; rw [va_up_s, va_up_n _ _ hj]) rfl) (fun ac q' e' hne _ => zce_cong rfl rfl (va_up_n _ _ hne) rfl) kk
theorem ZW.putR {idx ci k h0 q n r : Nat} (h : zIn mid pc pc' (.putfield idx) 3 [ci, k, h0]) (hc : ci < 12) (hf : zfk ci k = 2) (hn : ∀ q, narrow (zty ci k) (.ref q) = .ref q) (hft : ∀ q, fits (zty ci k) (.ref q) = true) (hM : w.1[q]? = some (ci, n)) (hq : q < 1000000) (hr : r < 1000000)
    (kk : ZW G mid pc' lo st (w.1, w.2.1, w.2.2.1, va_up w.2.2.2 q (va_up (w.2.2.2 q) k (some r))) kc ks Q) : ZW G mid pc lo (.ref r :: .ref q :: st) w kc ks Q :=
  ZW.putf (.ref r) (w.1, w.2.1, w.2.2.1, va_up w.2.2.2 q (va_up (w.2.2.2 q) k (some r))) h hc hM hq (by rw [zrl_ref G hr]; exact hn _) (by rw [zrl_ref G hr]; exact hft _) rfl (by rw [zfv_2 hf, zrl_ref G hr]; show va_rf ((va_up w.2.2.2 q _ q k).map _) = _; rw [va_up_s, va_up_s]; rfl)
    (fun j hj => zfv_cong rfl rfl (by show va_up w.2.2.2 q _ q j = _; rw [va_up_s, va_up_n _ _ hj])) (fun ac q' e' hne _ => zce_cong rfl rfl rfl (va_up_n _ _ hne)) kk
/-! arrays -/
theorem zat50 : zat 50 = .int := rfl
theorem zat51 : zat 51 = .byte := rfl
theorem zat52 : zat 52 = .boolean := rfl
theorem zat_ref {c : Nat} (h : 53 ≤ c) : zat c = .object (zcl (c - 53)).1 := by
  unfold zat
  rw [if_neg (by omega), if_neg (by omega), if_neg (by omega)]
theorem ZW.iald {q n : Nat} {i : Int32} (h : zIn mid pc pc' .iaload 1 a) (hM : w.1[q]? = some (50, n)) (hq : q < 1000000) (hin : vp_in i n) (kk : ZW G mid pc' lo (.int (w.2.1 q i.toNatClampNeg) :: st) w kc ks Q) : ZW G mid pc lo (.int i :: .ref q :: st) w kc ks Q := by
  obtain ⟨-, rfl⟩ := id h
  intro p l e R s m args below meth c H locs cells slots ac ls Qf C hH h1 h2 hL hret
  have he := zwl_at (G := G) (ac := ac) hM
  rw [zce_arr (by decide) (by decide)] at he
  rw [List.map_cons, List.map_cons, zrl_ref G hq]
  exact va_iald C.1 C.2.1 (hH.2.2.1.one hM (Nat.le_of_ble_eq_true rfl)) hH.1 q 0 he rfl hin h.dec (kk p l e R s m args below meth c H locs cells slots ac ls Qf C hH h1 h2 hL hret)
theorem ZW.bald {q n : Nat} {i : Int32} (h : zIn mid pc pc' .baload 1 a) (hM : w.1[q]? = some (51, n)) (hq : q < 1000000) (hin : vp_in i n) (kk : ZW G mid pc' lo (.int (w.2.1 q i.toNatClampNeg) :: st) w kc ks Q) : ZW G mid pc lo (.int i :: .ref q :: st) w kc ks Q := by
  obtain ⟨-, rfl⟩ := id h
  intro p l e R s m args below meth c H locs cells slots ac ls Qf C hH h1 h2 hL hret
  have he := zwl_at (G := G) (ac := ac) hM
  rw [zce_arr (by decide) (by decide)] at he
  rw [List.map_cons, List.map_cons, zrl_ref G hq]
  exact va_bald C.1 C.2.1 (hH.2.2.1.one hM (Nat.le_of_ble_eq_true rfl)) hH.1 q 0 he rfl hin h.dec (kk p l e R s m args below meth c H locs cells slots ac ls Qf C hH h1 h2 hL hret)
theorem ZW.zald {q n : Nat} {i : Int32} (h : zIn mid pc pc' .baload 1 a) (hM : w.1[q]? = some (52, n)) (hq : q < 1000000) (hin : vp_in i n) (kk : ZW G mid pc' lo (.int (w.2.1 q i.toNatClampNeg) :: st) w kc ks Q) : ZW G mid pc lo (.int i :: .ref q :: st) w kc ks Q := by
  obtain ⟨-, rfl⟩ := id h
  intro p l e R s m args below meth c H locs cells slots ac ls Qf C hH h1 h2 hL hret
  have he := zwl_at (G := G) (ac := ac) hM
  rw [zce_arr (by decide) (by decide)] at he
  rw [List.map_cons, List.map_cons, zrl_ref G hq]
  exact va_zald C.1 C.2.1 (hH.2.2.1.one hM (Nat.le_of_ble_eq_true rfl)) hH.1 q 0 he rfl hin h.dec (kk p l e R s m args below meth c H locs cells slots ac ls Qf C hH h1 h2 hL hret)
theorem ZW.aald {q cn n r : Nat} {i : Int32} (h : zIn mid pc pc' .aaload 1 a) (hM : w.1[q]? = some (cn, n)) (hcn : 53 ≤ cn) (hq : q < 1000000) (hin : vp_in i n) (hr : w.2.2.2 q i.toNatClampNeg = some r) (hr2 : r < 1000000) (kk : ZW G mid pc' lo (.ref r :: st) w kc ks Q) : ZW G mid pc lo (.int i :: .ref q :: st) w kc ks Q := by
  obtain ⟨-, rfl⟩ := id h
  intro p l e R s m args below meth c H locs cells slots ac ls Qf C hH h1 h2 hL hret
  have he := zwl_at (G := G) (ac := ac) hM
  rw [zce_ref hcn] at he
  rw [List.map_cons, List.map_cons, zrl_ref G hq]
  have key := kk p l e R s m args below meth c H locs cells slots ac ls Qf C hH h1 h2 hL hret
  rw [List.map_cons, zrl_ref G hr2] at key
  refine va_aldq C.1 C.2.1 (hH.2.2.1.one hM (by show 12 ≤ cn; omega)) hH.1 q 0 he (by show some (ac q, zat cn) = _; rw [zat_ref hcn]) hin h.dec ?_
  rw [hr]
  exact key
/-- an array's ints are written: behind the write -/
theorem zwl_row {ac : Nat → ClassId} {q cn n : Nat} {f : Nat → Int32} (hM : w.1[q]? = some (cn, n)) (h1 : 12 ≤ cn) (h2 : cn < 53) : (zwl G ac w).set q (gb G + q, .inl (ac q, n, .inl f)) = zwl G ac (w.1, va_up w.2.1 q f, w.2.2.1, w.2.2.2) :=
  zwl_set hM rfl (by rw [zce_arr h1 h2]; show Sum.inl (ac q, n, Sum.inl (va_up w.2.1 q f q)) = _; rw [va_up_s]) (fun q' e' hne _ => zce_cong rfl (va_up_n _ _ hne) rfl rfl)
theorem ZH.row {ac : Nat → ClassId} {s : State} {H H1 : Heap} {locs locs1 : List Loc} {cells q cn n : Nat} {f : Nat → Int32} (hH : ZH G ac w s H locs cells) (hM : w.1[q]? = some (cn, n)) (h1 : 12 ≤ cn) (h2 : cn < 53) (a1 : va_P (gD G) vwCl ((zwl G ac w).set q (gb G + q, .inl (ac q, n, .inl f))) H1) (a3 : va_S (zA G) s.heap H1 locs1) :
    ZH G ac (w.1, va_up w.2.1 q f, w.2.2.1, w.2.2.2) s H1 locs1 cells := ⟨by rw [zwl_row hM h1 h2] at a1; exact a1, a3, hH.2.2.1, hH.2.2.2⟩
theorem ZW.iast {q n : Nat} {i x : Int32} (h : zIn mid pc pc' .iastore 1 a) (hM : w.1[q]? = some (50, n)) (hq : q < 1000000) (hin : vp_in i n) (kk : ZW G mid pc' lo st (w.1, va_up w.2.1 q (upd (w.2.1 q) i.toNatClampNeg x), w.2.2.1, w.2.2.2) kc ks Q) : ZW G mid pc lo (.int x :: .int i :: .ref q :: st) w kc ks Q := by
  obtain ⟨-, rfl⟩ := id h
  intro p l e R s m args below meth c H locs cells slots ac ls Qf C hH h1 h2 hL hret
  have he := zwl_at (G := G) (ac := ac) hM
  rw [zce_arr (by decide) (by decide)] at he
  rw [List.map_cons, List.map_cons, List.map_cons, zrl_ref G hq]
  exact va_iast C.1 C.2.1 (hH.2.2.1.one hM (Nat.le_of_ble_eq_true rfl)) hH.1 zwl_D hH.2.1 q 0 he rfl hin h.dec (fun H1 locs1 a1 _ a3 => kk p l e R s m args below meth c H1 locs1 cells slots ac ls Qf C (hH.row hM (by decide) (by decide) a1 a3) h1 h2 hL hret)
theorem ZW.bast {q n : Nat} {i x : Int32} (h : zIn mid pc pc' .bastore 1 a) (hM : w.1[q]? = some (51, n)) (hq : q < 1000000) (hin : vp_in i n) (kk : ZW G mid pc' lo st (w.1, va_up w.2.1 q (upd (w.2.1 q) i.toNatClampNeg x.toInt8.toInt32), w.2.2.1, w.2.2.2) kc ks Q) : ZW G mid pc lo (.int x :: .int i :: .ref q :: st) w kc ks Q := by
  obtain ⟨-, rfl⟩ := id h
  intro p l e R s m args below meth c H locs cells slots ac ls Qf C hH h1 h2 hL hret
  have he := zwl_at (G := G) (ac := ac) hM
  rw [zce_arr (by decide) (by decide)] at he
  rw [List.map_cons, List.map_cons, List.map_cons, zrl_ref G hq]
  exact va_bast C.1 C.2.1 (hH.2.2.1.one hM (Nat.le_of_ble_eq_true rfl)) hH.1 zwl_D hH.2.1 q 0 he rfl hin h.dec (fun H1 locs1 a1 _ a3 => kk p l e R s m args below meth c H1 locs1 cells slots ac ls Qf C (hH.row hM (by decide) (by decide) (by rw [vp_nar_byte] at a1; exact a1) a3) h1 h2 hL hret)
theorem ZW.zast {q n : Nat} {i x : Int32} (h : zIn mid pc pc' .bastore 1 a) (hM : w.1[q]? = some (52, n)) (hq : q < 1000000) (hin : vp_in i n) (hx : x = 0 ∨ x = 1) (kk : ZW G mid pc' lo st (w.1, va_up w.2.1 q (upd (w.2.1 q) i.toNatClampNeg x), w.2.2.1, w.2.2.2) kc ks Q) : ZW G mid pc lo (.int x :: .int i :: .ref q :: st) w kc ks Q := by
  obtain ⟨-, rfl⟩ := id h
  intro p l e R s m args below meth c H locs cells slots ac ls Qf C hH h1 h2 hL hret
  have he := zwl_at (G := G) (ac := ac) hM
  rw [zce_arr (by decide) (by decide)] at he
  rw [List.map_cons, List.map_cons, List.map_cons, zrl_ref G hq]
  have hnx : vp_nar .boolean x = x := by rcases hx with rfl | rfl <;> rfl
  exact va_zast C.1 C.2.1 (hH.2.2.1.one hM (Nat.le_of_ble_eq_true rfl)) hH.1 zwl_D hH.2.1 q 0 he rfl hin h.dec (fun H1 locs1 a1 _ a3 => kk p l e R s m args below meth c H1 locs1 cells slots ac ls Qf C (hH.row hM (by decide) (by decide) (by rw [hnx] at a1; exact a1) a3) h1 h2 hL hret)
theorem ZW.aast {q n ci r n2 : Nat} {i : Int32} (h : zIn mid pc pc' .aastore 1 a) (hci : ci < 12) (hM : w.1[q]? = some (53 + ci, n)) (hq : q < 1000000) (hin : vp_in i n) (hr : w.1[r]? = some (ci, n2)) (hr2 : r < 1000000) (kk : ZW G mid pc' lo st (w.1, w.2.1, w.2.2.1, va_up w.2.2.2 q (va_up (w.2.2.2 q) i.toNatClampNeg (some r))) kc ks Q) : ZW G mid pc lo (.ref r :: .int i :: .ref q :: st) w kc ks Q := by
  obtain ⟨-, rfl⟩ := id h
  intro p l e R s m args below meth c H locs cells slots ac ls Qf C hH h1 h2 hL hret
  have he := zwl_at (G := G) (ac := ac) hM
  rw [zce_ref (by omega)] at he
  have her := zwl_at (G := G) (ac := ac) hr
  rw [zce_obj hci] at her
  rw [List.map_cons, List.map_cons, List.map_cons, zrl_ref G hq, zrl_ref G hr2]
  refine va_astq (r := zcl ci) C.1 C.2.1 (hH.2.2.1.one hM (by show 12 ≤ 53 + ci; omega)) hH.1 zwl_D hH.2.1 q 0 r ci he (by show some (ac q, zat (53 + ci)) = _; rw [zat_ref (by omega), show 53 + ci - 53 = ci by omega]) her (zcl_at ci hci) hin h.dec (fun H1 locs1 a1 _ a3 => ?_)
  have hset : (zwl G ac w).set q (gb G + q, .inl (ac q, n, .inr (.inr (.inr (.inr (va_up (fun j => (w.2.2.2 q j).map (fun r => gb G + r)) i.toNatClampNeg (some (gb G + r)))))))) = zwl G ac (w.1, w.2.1, w.2.2.1, va_up w.2.2.2 q (va_up (w.2.2.2 q) i.toNatClampNeg (some r))) := by
    refine zwl_set hM rfl ?_ (fun q' e' hne _ => zce_cong rfl rfl rfl (va_up_n _ _ hne))
    rw [zce_ref (by omega)]
    have hf : (fun j => (va_up w.2.2.2 q (va_up (w.2.2.2 q) i.toNatClampNeg (some r)) q j).map (fun r => gb G + r)) = va_up (fun j => (w.2.2.2 q j).map (fun r => gb G + r)) i.toNatClampNeg (some (gb G + r)) := by
      funext j
      rw [va_up_s]
      by_cases hj : j = i.toNatClampNeg
      · subst hj; rw [va_up_s, va_up_s]; rfl
      · rw [va_up_n _ _ hj, va_up_n _ _ hj]
    show Sum.inl (ac q, n, Sum.inr (Sum.inr (Sum.inr (Sum.inr (fun j => (va_up w.2.2.2 q (va_up (w.2.2.2 q) i.toNatClampNeg (some r)) q j).map (fun r => gb G + r)))))) = _
    rw [hf]
  rw [hset] at a1
  exact kk p l e R s m args below meth c H1 locs1 cells slots ac ls Qf C ⟨a1, a3, hH.2.2.1, hH.2.2.2⟩ h1 h2 hL hret
/-- an array's length -/
theorem ZW.alen {q cn n : Nat} (h : zIn mid pc pc' .arraylength 1 a) (hM : w.1[q]? = some (cn, n)) (h12 : 12 ≤ cn) (hq : q < 1000000) (kk : ZW G mid pc' lo (.int (nI n) :: st) w kc ks Q) : ZW G mid pc lo (.ref q :: st) w kc ks Q := by
  obtain ⟨-, rfl⟩ := id h
  intro p l e R s m args below meth c H locs cells slots ac ls Qf C hH h1 h2 hL hret
  have he := zwl_at (G := G) (ac := ac) hM
  rw [List.map_cons, zrl_ref G hq]
  rcases Nat.lt_or_ge cn 53 with h53 | h53
  · rw [zce_arr h12 h53] at he
    exact va_alen C.1 C.2.1 (hH.2.2.1.one hM h12) hH.1 q 0 he rfl rfl h.dec (kk p l e R s m args below meth c H locs cells slots ac ls Qf C hH h1 h2 hL hret)
  · rw [zce_ref h53] at he
    exact va_alen C.1 C.2.1 (hH.2.2.1.one hM h12) hH.1 q 0 he rfl rfl h.dec (kk p l e R s m args below meth c H locs cells slots ac ls Qf C hH h1 h2 hL hret)
/-- the script -/
theorem ZW.sld {i : Int32} (h : zIn mid pc pc' .iaload 1 a) (hin : vp_in i (gsL G)) (kk : ZW G mid pc' lo (.int (gxs G i.toNatClampNeg) :: st) w kc ks Q) : ZW G mid pc lo (.int i :: .ref 1000000 :: st) w kc ks Q := by
  obtain ⟨-, rfl⟩ := id h
  intro p l e R s m args below meth c H locs cells slots ac ls Qf C hH h1 h2 hL hret
  obtain ⟨z1, z2, z3, -⟩ := C.2.2.2.2.2.2.1
  exact va_sld C.1 C.2.1 z1 (by omega) (fun z => by have z' : gb G ≤ gsb G := z; omega) hH.2.1 hin h.dec (kk p l e R s m args below meth c H locs cells slots ac ls Qf C hH h1 h2 hL hret)
theorem ZW.slen (h : zIn mid pc pc' .arraylength 1 a) (kk : ZW G mid pc' lo (.int (nI (gsL G)) :: st) w kc ks Q) : ZW G mid pc lo (.ref 1000000 :: st) w kc ks Q := by
  obtain ⟨-, rfl⟩ := id h
  intro p l e R s m args below meth c H locs cells slots ac ls Qf C hH h1 h2 hL hret
  obtain ⟨z1, z2, z3, -⟩ := C.2.2.2.2.2.2.1
  exact va_slen C.1 C.2.1 z1 (by omega) (fun z => by have z' : gb G ≤ gsb G := z; omega) hH.2.1 h.dec (kk p l e R s m args below meth c H locs cells slots ac ls Qf C hH h1 h2 hL hret)
/-- where a new cell lies -/
theorem znew_at {ac : Nat → ClassId} {s : State} {H1 : Heap} {cells q : Nat} {x : va_E} (hz : s.heap.size + cells = gb G + w.1.length) (a1 : va_P (gD G) vwCl (zwl G ac w ++ [(q, x)]) H1) (a2 : va_D (zA G) (zwl G ac w ++ [(q, x)])) (hs : H1.size ≤ s.heap.size + (cells + 1)) : q = gb G + w.1.length := by
  have hl : (zwl G ac w).length = w.1.length := by unfold zwl; simp
  have hat : (zwl G ac w ++ [(q, x)])[w.1.length]? = some (q, x) := by rw [List.getElem?_append_right (by rw [hl]; exact Nat.le_refl _), hl, Nat.sub_self]; rfl
  have hlt := (a1 _ _ hat).lt
  have hge : gb G ≤ q := a2.2 _ _ hat
  rcases Nat.lt_or_ge q (gb G + w.1.length) with h | h
  · exfalso
    have hk : q - gb G < w.1.length := by omega
    have hw : w.1[q - gb G]? = some (w.1[q - gb G]) := List.getElem?_eq_getElem hk
    have h2 := zwl_at (G := G) (ac := ac) hw
    have h3 : (zwl G ac w ++ [(q, x)])[q - gb G]? = some (gb G + (q - gb G), zce G ac w (q - gb G) (w.1[q - gb G])) := by rw [List.getElem?_append_left (by rw [hl]; exact hk)]; exact h2
    have := a2.1 _ _ _ _ h3 hat (by show gb G + (q - gb G) = q; omega)
    omega
  · have hlt' : q < H1.size := hlt
    omega
/-- a new object: its fields at their defaults -/
theorem ZW.new {idx ci h1' h2' h3' : Nat} (h : zIn mid pc pc' (.new idx) 3 [ci, h1', h2', h3']) (hc : ci < 12) (hN : w.1.length < 1000000)
    (kk : ZW G mid pc' lo (.ref w.1.length :: st) (w.1 ++ [(ci, 0)], va_up w.2.1 w.1.length (fun _ => 0), va_up w.2.2.1 w.1.length (fun _ => 0), va_up w.2.2.2 w.1.length (fun _ => none)) kc ks Q) : ZW G mid pc lo st w (kc + 1) (ks + (zcl ci).2.2) Q := by
  obtain ⟨-, rfl⟩ := id h
  have hck := h.ck.2
  simp only [zCkI, List.getD_cons_zero, List.getD_cons_succ, Bool.and_eq_true, decide_eq_true_eq] at hck
  obtain ⟨-, k1, k2, k3⟩ := hck
  intro p l e R s m args below meth c H locs cells slots ac ls Qf C hH h1 h2 hL hret
  obtain ⟨hP, hS, hK, hz⟩ := hH
  refine va_new (fs := (List.range (zcl ci).2.2).map (zfv G ci (w.1 ++ [(ci, 0)], va_up w.2.1 w.1.length (fun _ => 0), va_up w.2.2.1 w.1.length (fun _ => 0), va_up w.2.2.2 w.1.length (fun _ => none)) w.1.length)) (C := (zcl ci).1) (T := (zcl ci).2.1) (N := (zcl ci).2.2) C.1 C.2.1 C.2.2.2.2.1 (zcl_ws ci hc) (zty ci) (zcl_ty ci hc) C.2.2.2.1 (C.2.2.2.2.1 _ (zHas_mem k1)) (C.2.2.2.2.1 _ (zHas_mem k2)) (C.2.2.2.2.1 _ (zHas_mem k3)) hK.1 hP zwl_D hS C.hA (zcl_at ci hc) ?_ (by omega) (by omega) h.dec (fun q H1 a1 a2 a3 => ?_)
  · intro j hj
    unfold vp_V
    rw [List.getD_eq_getElem?_getD, List.getElem?_map, List.getElem?_range hj]
    show defaultValue (zty ci j) = zfv G ci _ w.1.length j
    unfold zfv
    have hall : ∀ ci, ci < 12 → ∀ j, j < (zcl ci).2.2 → zty ci j = .long ∨ zty ci j = .int ∨ zty ci j = .boolean ∨ defaultValue (zty ci j) = .null := by decide +kernel
    rcases hall ci hc j hj with e | e | e | e
    · rw [e]; show Value.long 0 = .long (va_up w.2.2.1 w.1.length _ w.1.length j); rw [va_up_s]
    · rw [e]; show Value.int 0 = .int (va_up w.2.1 w.1.length _ w.1.length j); rw [va_up_s]
    · rw [e]; show Value.int 0 = .int (va_up w.2.1 w.1.length _ w.1.length j); rw [va_up_s]
    · rw [e]
      split
      · rename_i e2; rw [e2] at e; cases e
      · rename_i e2; rw [e2] at e; cases e
      · rename_i e2; rw [e2] at e; cases e
      · show Value.null = va_rf ((va_up w.2.2.2 w.1.length _ w.1.length j).map _); rw [va_up_s]; rfl
  · refine W.sz fun hs => ?_
    have hq := znew_at hz a1 a2 hs
    subst hq
    rw [zwl_push ac (w' := (w.1 ++ [(ci, 0)], va_up w.2.1 w.1.length (fun _ => 0), va_up w.2.2.1 w.1.length (fun _ => 0), va_up w.2.2.2 w.1.length (fun _ => none))) rfl (zce_obj hc) (fun q' e' hl' _ => zce_cong rfl (va_up_n _ _ (by omega)) (va_up_n _ _ (by omega)) (va_up_n _ _ (by omega)))] at a1
    have key := kk p l e R s m args below meth c H1 locs (cells + 1) (slots + (zcl ci).2.2) ac ls Qf C ⟨a1, a3, ⟨hK.1, fun k' e' hk' h12 => ?_⟩, by show _ = gb G + (w.1 ++ [(ci, 0)]).length; rw [List.length_append]; simp; omega⟩ (by omega) (by omega) hL hret
    · rw [List.map_cons, zrl_ref G hN] at key
      exact key
    · have hk2 : (w.1 ++ [(ci, 0)])[k']? = some e' := hk'
      by_cases hl' : k' < w.1.length
      · rw [List.getElem?_append_left hl'] at hk2
        exact hK.2 k' e' hk2 h12
      · rw [List.getElem?_append_right (by omega)] at hk2
        have : k' - w.1.length = 0 := by have := (List.getElem?_eq_some_iff.mp hk2).1; simp at this; omega
        rw [this] at hk2
        cases hk2
        exact absurd h12 (by show ¬ 12 ≤ ci; omega)
end ZCELLS
