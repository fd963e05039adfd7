/-! WHAT IS MADE, IN ITS ORDER: references, ints; the state of a constructors' walk -/
def zRS : List (Nat × Nat × Nat) := [(2, 6, 3), (2, 7, 4), (1, 0, 2), (5, 2, 6), (5, 3, 7), (5, 4, 8), (1, 1, 5), (9, 1, 10), (1, 2, 9), (11, 1, 12), (11, 2, 13), (1, 3, 11), (0, 0, 1), (0, 1, 14), (17, 6, 18), (17, 7, 19), (16, 0, 17), (20, 2, 21), (20, 3, 22), (20, 4, 23), (16, 1, 20), (24, 1, 25), (16, 2, 24), (26, 1, 27), (26, 2, 28), (16, 3, 26), (15, 0, 16), (29, 0, 30), (15, 4, 29), (0, 3, 15), (0, 4, 29), (31, 6, 32), (31, 7, 33), (0, 5, 31), (34, 3, 35), (34, 4, 36), (34, 7, 37), (34, 8, 38), (39, 6, 40), (39, 7, 41), (38, 0, 39), (42, 6, 43), (42, 7, 44), (38, 1, 42), (45, 6, 46), (45, 7, 47), (38, 2, 45), (48, 6, 49), (48, 7, 50), (38, 3, 48), (51, 6, 52), (51, 7, 53), (38, 4, 51), (0, 6, 34), (54, 1, 55), (54, 2, 56), (54, 3, 57), (0, 7, 54), (0, 8, 58), (60, 6, 61), (60, 7, 62), (59, 0, 60), (63, 2, 64), (63, 3, 65), (63, 4, 66), (59, 1, 63), (67, 1, 68), (59, 2, 67), (69, 1, 70), (69, 2, 71), (59, 3, 69), (14, 0, 59), (73, 6, 74), (73, 7, 75), (72, 0, 73), (76, 2, 77), (76, 3, 78), (76, 4, 79), (72, 1, 76), (80, 1, 81), (72, 2, 80), (82, 1, 83), (82, 2, 84), (72, 3, 82), (14, 1, 72), (85, 1, 86), (58, 0, 85), (87, 1, 88), (58, 1, 87), (89, 1, 90), (58, 2, 89), (91, 1, 92), (58, 3, 91), (93, 0, 94), (93, 1, 95), (93, 2, 96), (93, 5, 97), (93, 6, 98), (93, 7, 99), (93, 8, 100), (93, 11, 101), (93, 12, 102), (93, 13, 103), (93, 17, 104), (93, 26, 105), (93, 27, 106), (93, 31, 107), (93, 32, 108), (93, 33, 109), (93, 35, 110)]
def zIS : List (Nat × Nat × Int32) := [(2, 0, nI 0), (2, 1, nI 20), (2, 2, nI 8), (2, 3, nI 0), (2, 4, nI 0), (2, 5, nI 0), (5, 0, nI 0), (5, 1, nI 0), (9, 0, nI 0), (11, 0, nI 0), (0, 2, nI 0), (17, 0, nI 0), (17, 1, nI 20), (17, 2, nI 8), (17, 3, nI 0), (17, 4, nI 0), (17, 5, nI 0), (20, 0, nI 0), (20, 1, nI 0), (24, 0, nI 0), (26, 0, nI 0), (15, 1, nI 0), (15, 2, nI 0), (15, 3, nI 0), (29, 1, nI 0), (29, 2, nI 0), (29, 3, nI 0), (15, 5, nI 0), (15, 6, nI 0), (15, 7, -1), (31, 0, nI 0), (31, 1, nI 20), (31, 2, nI 8), (31, 3, nI 0), (31, 4, nI 0), (31, 5, nI 0), (34, 0, nI 0), (34, 1, nI 0), (34, 2, nI 0), (34, 5, nI 0), (34, 6, nI 0), (39, 0, nI 0), (39, 1, nI 20), (39, 2, nI 8), (39, 3, nI 0), (39, 4, nI 0), (39, 5, nI 0), (42, 0, nI 0), (42, 1, nI 20), (42, 2, nI 8), (42, 3, nI 0), (42, 4, nI 0), (42, 5, nI 0), (45, 0, nI 0), (45, 1, nI 20), (45, 2, nI 8), (45, 3, nI 0), (45, 4, nI 0), (45, 5, nI 0), (48, 0, nI 0), (48, 1, nI 20), (48, 2, nI 8), (48, 3, nI 0), (48, 4, nI 0), (48, 5, nI 0), (51, 0, nI 0), (51, 1, nI 20), (51, 2, nI 8), (51, 3, nI 0), (51, 4, nI 0), (51, 5, nI 0), (54, 0, nI 0), (0, 9, nI 0), (0, 10, nI 0), (60, 0, nI 0), (60, 1, nI 20), (60, 2, nI 8), (60, 3, nI 0), (60, 4, nI 0), (60, 5, nI 0), (63, 0, nI 0), (63, 1, nI 0), (67, 0, nI 0), (69, 0, nI 0), (73, 0, nI 0), (73, 1, nI 20), (73, 2, nI 8), (73, 3, nI 0), (73, 4, nI 0), (73, 5, nI 0), (76, 0, nI 0), (76, 1, nI 0), (80, 0, nI 0), (82, 0, nI 0), (85, 0, -1), (85, 2, nI 0), (87, 0, -1), (87, 2, nI 0), (89, 0, -1), (89, 2, nI 0), (91, 0, -1), (91, 2, nI 0)]
theorem zRS_nd : ∀ i, i < zRS.length → ∀ d ∈ zRS.take i, ¬ (d.1 = (zRS.getD i (0, 0, 0)).1 ∧ d.2.1 = (zRS.getD i (0, 0, 0)).2.1) := by decide +kernel
theorem zIS_nd : ∀ i, i < zIS.length → ∀ d ∈ zIS.take i, ¬ (d.1 = (zIS.getD i (0, 0, 0)).1 ∧ d.2.1 = (zIS.getD i (0, 0, 0)).2.1) := by decide +kernel
theorem zRS_all : ∀ e ∈ R0, e ∈ zRS := by decide +kernel
/-- n cells, m references, i ints stand -/
def zST (n m i : Nat) (w : zW) : Prop := w.1 = M0.take n ∧ (∀ e ∈ zRS.take m, e.1 < n ∧ w.2.2.2 e.1 e.2.1 = some e.2.2) ∧ (∀ e ∈ zIS.take i, e.1 < n ∧ w.2.1 e.1 e.2.1 = e.2.2) ∧ ∀ q, (q = 4 ∨ q = 93) → q < n → w.2.1 q = fun _ => 0
theorem ztake_snoc {α : Type} : ∀ (l : List α) (n : Nat) (e : α), l[n]? = some e → l.take (n + 1) = l.take n ++ [e]
  | [], n, e, h => by simp at h
  | a :: t, 0, e, h => by simp at h; subst h; rfl
  | a :: t, n + 1, e, h => by
    have h' : t[n]? = some e := by simpa using h
    show a :: t.take (n + 1) = a :: (t.take n ++ [e])
    rw [ztake_snoc t n e h']
theorem zgetD {α : Type} {l : List α} {n : Nat} {e d : α} (h : l[n]? = some e) : n < l.length ∧ l.getD n d = e := by
  have h1 := (List.getElem?_eq_some_iff.mp h).1
  refine ⟨h1, ?_⟩
  rw [List.getD_eq_getElem?_getD, h]
  rfl
theorem M0_111 {n : Nat} {e : Nat × Nat} (h : M0[n]? = some e) : n < 111 := by
  have h1 := (List.getElem?_eq_some_iff.mp h).1
  have h2 : M0.length = 111 := by decide +kernel
  omega
section MROWS
variable {G : zG} {mid pc pc' : Nat} {lo : List (Option Value)} {st : List Value} {w : zW} {Q : Option Value → zW → Prop} {a : List Nat} {n m i : Nat}
theorem zST.len (s : zST n m i w) (hn : n ≤ 111) : w.1.length = n := by
  have h2 : M0.length = 111 := by decide +kernel
  rw [s.1, List.length_take]
  omega
theorem zST.at {q : Nat} {e : Nat × Nat} (s : zST n m i w) (h : M0[q]? = some e) (hl : q < n) : w.1[q]? = some e := by
  rw [s.1, List.getElem?_take_of_lt hl]
  exact h
theorem zST.ref {q k r : Nat} (s : zST n m i w) (h : (q, k, r) ∈ zRS.take m) : w.2.2.2 q k = some r := (s.2.1 _ h).2
theorem zST.int {q k : Nat} {x : Int32} (s : zST n m i w) (h : (q, k, x) ∈ zIS.take i) : w.2.1 q k = x := (s.2.2.1 _ h).2
theorem zST.new {e : Nat × Nat} {I' : zI} {J' : zJ} {R' : zR} (s : zST n m i w) (hM : M0[n]? = some e) (hI : ∀ q, q < n → I' q = w.2.1 q) (hz : (n = 4 ∨ n = 93) → I' n = fun _ => 0) (hR : ∀ q, q < n → R' q = w.2.2.2 q) : zST (n + 1) m i (w.1 ++ [e], I', J', R') := by
  refine ⟨?_, fun d hd => ⟨Nat.lt_succ_of_lt (s.2.1 d hd).1, ?_⟩, fun d hd => ⟨Nat.lt_succ_of_lt (s.2.2.1 d hd).1, ?_⟩, fun q hq hl => ?_⟩
  · show w.1 ++ [e] = _
    rw [s.1, ztake_snoc _ _ _ hM]
  · show R' d.1 d.2.1 = _
    rw [hR _ (s.2.1 d hd).1]
    exact (s.2.1 d hd).2
  · show I' d.1 d.2.1 = _
    rw [hI _ (s.2.2.1 d hd).1]
    exact (s.2.2.1 d hd).2
  · show I' q = _
    by_cases h : q = n
    · subst h; exact hz hq
    · rw [hI _ (by omega)]
      exact s.2.2.2 q hq (by omega)
theorem zST.putI {q k : Nat} {x : Int32} (s : zST n m i w) (hI : zIS[i]? = some (q, k, x)) (hq : q < n) (h4 : ¬ (q = 4 ∨ q = 93)) : zST n m (i + 1) (w.1, va_up w.2.1 q (upd (w.2.1 q) k x), w.2.2.1, w.2.2.2) := by
  refine ⟨s.1, s.2.1, fun d hd => ?_, fun p hp hl => ?_⟩
  · rw [ztake_snoc _ _ _ hI] at hd
    rcases List.mem_append.mp hd with hd | hd
    · refine ⟨(s.2.2.1 d hd).1, ?_⟩
      obtain ⟨h1, h2⟩ := zgetD (d := (0, 0, 0)) hI
      have h3 := zIS_nd i h1 d hd
      rw [h2] at h3
      show va_up w.2.1 q (upd (w.2.1 q) k x) d.1 d.2.1 = _
      by_cases e : d.1 = q
      · have e2 : ¬ d.2.1 = k := fun z => h3 ⟨e, z⟩
        rw [e, va_up_s, upd_n _ _ e2, ← e]
        exact (s.2.2.1 d hd).2
      · rw [va_up_n _ _ e]
        exact (s.2.2.1 d hd).2
    · have e := List.mem_singleton.mp hd
      subst e
      refine ⟨hq, ?_⟩
      show va_up w.2.1 q (upd (w.2.1 q) k x) q k = x
      rw [va_up_s, upd_s]
  · show va_up w.2.1 q (upd (w.2.1 q) k x) p = _
    have hne : p ≠ q := fun z => h4 (by rw [← z]; exact hp)
    rw [va_up_n _ _ hne]
    exact s.2.2.2 p hp hl
theorem zST.putR {q k r : Nat} (s : zST n m i w) (hR : zRS[m]? = some (q, k, r)) (hq : q < n) : zST n (m + 1) i (w.1, w.2.1, w.2.2.1, va_up w.2.2.2 q (va_up (w.2.2.2 q) k (some r))) := by
  refine ⟨s.1, fun d hd => ?_, s.2.2.1, s.2.2.2⟩
  rw [ztake_snoc _ _ _ hR] at hd
  rcases List.mem_append.mp hd with hd | hd
  · refine ⟨(s.2.1 d hd).1, ?_⟩
    obtain ⟨h1, h2⟩ := zgetD (d := (0, 0, 0)) hR
    have h3 := zRS_nd m h1 d hd
    rw [h2] at h3
    show va_up w.2.2.2 q (va_up (w.2.2.2 q) k (some r)) d.1 d.2.1 = _
    by_cases e : d.1 = q
    · have e2 : ¬ d.2.1 = k := fun z => h3 ⟨e, z⟩
      rw [e, va_up_s, va_up_n _ _ e2, ← e]
      exact (s.2.1 d hd).2
    · rw [va_up_n _ _ e]
      exact (s.2.1 d hd).2
  · have e := List.mem_singleton.mp hd
    subst e
    refine ⟨hq, ?_⟩
    show va_up w.2.2.2 q (va_up (w.2.2.2 q) k (some r)) q k = some r
    rw [va_up_s, va_up_s]
theorem ZS.ent {av : List Value} {L kc ks : Nat} (lo : List (Option Value)) (hL : zL mid = L) (he : zent av L = lo) (k : ZW G mid 0 lo [] w kc ks Q) : ZM G mid av w kc ks Q := by
  show ZW G mid 0 (zent av (zL mid)) [] w kc ks Q
  rw [hL, he]
  exact k
theorem ZS.new {idx ci N h1' h2' h3' kc' ks' : Nat} (n' kc ks : Nat) (s : zST n m i w) (h : zIn mid pc pc' (.new idx) 3 [ci, h1', h2', h3']) (hc : ci < 12) (hM : M0[n]? = some (ci, 0)) (hN : (zcl ci).2.2 = N) (e0 : n' = n + 1) (e1 : kc' = kc + 1) (e2 : ks' = ks + N)
    (kk : ∀ w, zST n' m i w → ZW G mid pc' lo (.ref n :: st) w kc ks Q) : ZW G mid pc lo st w kc' ks' Q := by
  subst e0; subst e1; subst e2; subst hN
  have hl := s.len (Nat.le_of_lt (M0_111 hM))
  have hlt := M0_111 hM
  refine ZW.new h hc (by omega) ?_
  rw [hl]
  exact kk _ (s.new hM (fun q hq => va_up_n _ _ (by omega)) (fun _ => va_up_s _ _ _) (fun q hq => va_up_n _ _ (by omega)))
theorem ZS.newa {t : ArrayType} {h0 cn N kc' ks' : Nat} {x : Int32} (n' kc ks : Nat) (s : zST n m i w) (h : zIn mid pc pc' (.newarray t) 2 [h0]) (hcn : 49 < cn) (hcn2 : cn < 53) (hty : newarray.typeOf t = zat cn) (hM : M0[n]? = some (cn, N)) (hN : N ≤ 100000) (e0 : n' = n + 1) (e1 : kc' = kc + 1) (e2 : ks' = ks + N) (hx : x = nI N)
    (kk : ∀ w, zST n' m i w → ZW G mid pc' lo (.ref n :: st) w kc ks Q) : ZW G mid pc lo (.int x :: st) w kc' ks' Q := by
  subst e0; subst e1; subst e2
  have hl := s.len (Nat.le_of_lt (M0_111 hM))
  have hlt := M0_111 hM
  refine ZW.newa h (by omega) hcn2 hty hx hN (by omega) ?_
  rw [hl]
  exact kk _ (s.new hM (fun q hq => va_up_n _ _ (by omega)) (fun _ => va_up_s _ _ _) (fun q hq => rfl))
theorem ZS.newq {idx ci h1' h2' N kc' ks' : Nat} {x : Int32} (n' kc ks : Nat) (s : zST n m i w) (h : zIn mid pc pc' (.anewarray idx) 3 [ci, h1', h2']) (hc : ci < 12) (hM : M0[n]? = some (53 + ci, N)) (hN : N ≤ 100000) (h4 : ¬ (n = 4 ∨ n = 93)) (e0 : n' = n + 1) (e1 : kc' = kc + 1) (e2 : ks' = ks + N) (hx : x = nI N)
    (kk : ∀ w, zST n' m i w → ZW G mid pc' lo (.ref n :: st) w kc ks Q) : ZW G mid pc lo (.int x :: st) w kc' ks' Q := by
  subst e0; subst e1; subst e2
  have hl := s.len (Nat.le_of_lt (M0_111 hM))
  have hlt := M0_111 hM
  refine ZW.newq h hc hx hN (by omega) ?_
  rw [hl]
  exact kk _ (s.new hM (fun q hq => rfl) (fun z => absurd z h4) (fun q hq => va_up_n _ _ (by omega)))
theorem ZS.putI {idx ci k h0 q nn kc ks : Nat} {x : Int32} (i' : Nat) (s : zST n m i w) (h : zIn mid pc pc' (.putfield idx) 3 [ci, k, h0]) (hf : zty ci k = .int) (hc : ci < 12) (hM : M0[q]? = some (ci, nn)) (hq : q < n) (h4 : ¬ (q = 4 ∨ q = 93)) (e0 : zIS[i]? = some (q, k, x) ∧ i' = i + 1)
    (kk : ∀ w, zST n m i' w → ZW G mid pc' lo st w kc ks Q) : ZW G mid pc lo (.int x :: .ref q :: st) w kc ks Q := by
  obtain ⟨hI, rfl⟩ := e0
  exact ZW.putI h hc hf (s.at hM hq) (M0_lt hM) (kk _ (s.putI hI hq h4))
theorem ZS.putZ {idx ci k h0 q nn kc ks : Nat} {x : Int32} (i' : Nat) (s : zST n m i w) (h : zIn mid pc pc' (.putfield idx) 3 [ci, k, h0]) (hf : zty ci k = .boolean) (hc : ci < 12) (hx : x = 0 ∨ x = 1) (hM : M0[q]? = some (ci, nn)) (hq : q < n) (h4 : ¬ (q = 4 ∨ q = 93)) (e0 : zIS[i]? = some (q, k, x) ∧ i' = i + 1)
    (kk : ∀ w, zST n m i' w → ZW G mid pc' lo st w kc ks Q) : ZW G mid pc lo (.int x :: .ref q :: st) w kc ks Q := by
  obtain ⟨hI, rfl⟩ := e0
  exact ZW.putZ h hc hf hx (s.at hM hq) (M0_lt hM) (kk _ (s.putI hI hq h4))
theorem ZS.putR {idx ci k h0 q nn r kc ks : Nat} (m' : Nat) (s : zST n m i w) (h : zIn mid pc pc' (.putfield idx) 3 [ci, k, h0]) (hf : zfk ci k = 2) (hc : ci < 12) (hn : ∀ q, narrow (zty ci k) (.ref q) = .ref q) (hft : ∀ q, fits (zty ci k) (.ref q) = true) (hM : M0[q]? = some (ci, nn)) (hq : q < n) (hr : r < 1000000) (e0 : zRS[m]? = some (q, k, r) ∧ m' = m + 1)
    (kk : ∀ w, zST n m' i w → ZW G mid pc' lo st w kc ks Q) : ZW G mid pc lo (.ref r :: .ref q :: st) w kc ks Q := by
  obtain ⟨hR, rfl⟩ := e0
  exact ZW.putR h hc hf hn hft (s.at hM hq) (M0_lt hM) hr (kk _ (s.putR hR hq))
theorem ZS.aast {q nn ci r n2 kc ks : Nat} {x : Int32} (m' j : Nat) (s : zST n m i w) (h : zIn mid pc pc' .aastore 1 a) (hci : ci < 12) (hM : M0[q]? = some (53 + ci, nn)) (hq : q < n) (hx : x = nI j) (hj : j < nn) (hnn : nn < 2 ^ 31) (hr : M0[r]? = some (ci, n2)) (hrn : r < n) (e0 : zRS[m]? = some (q, j, r) ∧ m' = m + 1)
    (kk : ∀ w, zST n m' i w → ZW G mid pc' lo st w kc ks Q) : ZW G mid pc lo (.ref r :: .int x :: .ref q :: st) w kc ks Q := by
  obtain ⟨hR, rfl⟩ := e0
  subst hx
  have hc : (nI j).toNatClampNeg = j := nI_clamp (by omega)
  refine ZW.aast h hci (s.at hM hq) (M0_lt hM) (vp_in_nI hj hnn) (s.at hr hrn) (M0_lt hr) ?_
  rw [hc]
  exact kk _ (s.putR hR hq)
theorem ZS.call {idx t k1 k2 k3 k5 k6 q c1 s1 kc' ks' : Nat} {rest : List Value} (n' m' i' kc ks : Nat) (s : zST n m i w) (h : zIn mid pc pc' (.invokespecial idx) 3 [t, k1, k2, k3, 0, k5, k6]) (ht : t < 1000) (hq : q < 1000000) (hr : rest.length ≤ 4) (hlen : 0 < zL t)
    (hk : ∀ Q1 : Option Value → zW → Prop, (∀ w, zST n' m' i' w → Q1 none w) → ZM G t [.ref q] w c1 s1 Q1) (e0 : n' = n + c1 ∧ n' < 112) (e1 : kc' = c1 + kc) (e2 : ks' = s1 + ks)
    (kk : ∀ w, zST n' m' i' w → ZW G mid pc' lo rest w kc ks Q) : ZW G mid pc lo (.ref q :: rest) w kc' ks' Q := by
  obtain ⟨e0, e3⟩ := e0
  subst e1; subst e2
  have hl := s.len (by omega)
  refine ZW.calli (As := []) (Q1 := fun r w' => r = none ∧ zST n' m' i' w') h ht hq rfl hr hlen (hk _ (fun w s => ⟨rfl, s⟩)) (fun r w' hw => by rw [hw.2.len (by omega), hl]; exact e0) (fun r w' hw => ?_)
  obtain ⟨rfl, hs⟩ := hw
  exact kk w' hs
end MROWS
