/-! calls by the number of their arguments; cells and references by their numbers -/
section ZPC
variable {G : zG} {mid pc pc' : Nat} {lo : List (Option Value)} {I : zI} {L : zJ} {Q : zP}
theorem Zp.callv0I {idx t k1 k2 k3 k5 k6 q cn nn m : Nat} {rest : List Value} (hv : zCv t cn m = true) (h : zIn mid pc pc' (.invokevirtual idx) 3 [t, k1, k2, k3, 0, k5, k6]) (hM : M0[q]? = some (cn, nn)) (hr : rest.length ≤ 4) (hlen : (zargs (.ref q :: [])).length ≤ m)
    (hk : Zm G t (.ref q :: []) I L (fun r I' L' => ∃ v, r = some (.int v) ∧ Zp G mid pc' lo (.int v :: rest) I' L' Q)) : Zp G mid pc lo (.ref q :: rest) I L Q :=
  Zp.callv (As := []) hv h hM rfl hr hlen (Zm.mono (fun r I' L' q => by obtain ⟨v, rfl, k⟩ := q; exact k) hk)
theorem Zp.calls0I {idx t k1 k2 k3 k5 m : Nat} {rest : List Value} (hv : zCs t m = true) (h : zIn mid pc pc' (.invokestatic idx) 3 [t, k1, k2, k3, 0, k5]) (hr : rest.length ≤ 4) (hlen : (zargs []).length ≤ m)
    (hk : Zm G t [] I L (fun r I' L' => ∃ v, r = some (.int v) ∧ Zp G mid pc' lo (.int v :: rest) I' L' Q)) : Zp G mid pc lo (rest) I L Q :=
  Zp.calls (As := []) hv h rfl hr hlen (Zm.mono (fun r I' L' q => by obtain ⟨v, rfl, k⟩ := q; exact k) hk)
theorem Zp.callv0V {idx t k1 k2 k3 k5 k6 q cn nn m : Nat} {rest : List Value} (hv : zCv t cn m = true) (h : zIn mid pc pc' (.invokevirtual idx) 3 [t, k1, k2, k3, 0, k5, k6]) (hM : M0[q]? = some (cn, nn)) (hr : rest.length ≤ 4) (hlen : (zargs (.ref q :: [])).length ≤ m)
    (hk : Zm G t (.ref q :: []) I L (fun r I' L' => r = none ∧ Zp G mid pc' lo rest I' L' Q)) : Zp G mid pc lo (.ref q :: rest) I L Q :=
  Zp.callv (As := []) hv h hM rfl hr hlen (Zm.mono (fun r I' L' q => by obtain ⟨rfl, k⟩ := q; exact k) hk)
theorem Zp.calls0V {idx t k1 k2 k3 k5 m : Nat} {rest : List Value} (hv : zCs t m = true) (h : zIn mid pc pc' (.invokestatic idx) 3 [t, k1, k2, k3, 0, k5]) (hr : rest.length ≤ 4) (hlen : (zargs []).length ≤ m)
    (hk : Zm G t [] I L (fun r I' L' => r = none ∧ Zp G mid pc' lo rest I' L' Q)) : Zp G mid pc lo (rest) I L Q :=
  Zp.calls (As := []) hv h rfl hr hlen (Zm.mono (fun r I' L' q => by obtain ⟨rfl, k⟩ := q; exact k) hk)
theorem Zp.callv0L {idx t k1 k2 k3 k5 k6 q cn nn m : Nat} {rest : List Value} (hv : zCv t cn m = true) (h : zIn mid pc pc' (.invokevirtual idx) 3 [t, k1, k2, k3, 0, k5, k6]) (hM : M0[q]? = some (cn, nn)) (hr : rest.length ≤ 4) (hlen : (zargs (.ref q :: [])).length ≤ m)
    (hk : Zm G t (.ref q :: []) I L (fun r I' L' => ∃ v, r = some (.long v) ∧ Zp G mid pc' lo (.long v :: rest) I' L' Q)) : Zp G mid pc lo (.ref q :: rest) I L Q :=
  Zp.callv (As := []) hv h hM rfl hr hlen (Zm.mono (fun r I' L' q => by obtain ⟨v, rfl, k⟩ := q; exact k) hk)
theorem Zp.calls0L {idx t k1 k2 k3 k5 m : Nat} {rest : List Value} (hv : zCs t m = true) (h : zIn mid pc pc' (.invokestatic idx) 3 [t, k1, k2, k3, 0, k5]) (hr : rest.length ≤ 4) (hlen : (zargs []).length ≤ m)
    (hk : Zm G t [] I L (fun r I' L' => ∃ v, r = some (.long v) ∧ Zp G mid pc' lo (.long v :: rest) I' L' Q)) : Zp G mid pc lo (rest) I L Q :=
  Zp.calls (As := []) hv h rfl hr hlen (Zm.mono (fun r I' L' q => by obtain ⟨v, rfl, k⟩ := q; exact k) hk)
theorem Zp.callv1I {idx t k1 k2 k3 k5 k6 q cn nn m : Nat} {v1 : Value} {rest : List Value} (hv : zCv t cn m = true) (h : zIn mid pc pc' (.invokevirtual idx) 3 [t, k1, k2, k3, 1, k5, k6]) (hM : M0[q]? = some (cn, nn)) (hr : rest.length ≤ 4) (hlen : (zargs (.ref q :: [v1])).length ≤ m)
    (hk : Zm G t (.ref q :: [v1]) I L (fun r I' L' => ∃ v, r = some (.int v) ∧ Zp G mid pc' lo (.int v :: rest) I' L' Q)) : Zp G mid pc lo (v1 :: .ref q :: rest) I L Q :=
  Zp.callv (As := [v1]) hv h hM rfl hr hlen (Zm.mono (fun r I' L' q => by obtain ⟨v, rfl, k⟩ := q; exact k) hk)
theorem Zp.calls1I {idx t k1 k2 k3 k5 m : Nat} {v1 : Value} {rest : List Value} (hv : zCs t m = true) (h : zIn mid pc pc' (.invokestatic idx) 3 [t, k1, k2, k3, 1, k5]) (hr : rest.length ≤ 4) (hlen : (zargs [v1]).length ≤ m)
    (hk : Zm G t [v1] I L (fun r I' L' => ∃ v, r = some (.int v) ∧ Zp G mid pc' lo (.int v :: rest) I' L' Q)) : Zp G mid pc lo (v1 :: rest) I L Q :=
  Zp.calls (As := [v1]) hv h rfl hr hlen (Zm.mono (fun r I' L' q => by obtain ⟨v, rfl, k⟩ := q; exact k) hk)
theorem Zp.callv1V {idx t k1 k2 k3 k5 k6 q cn nn m : Nat} {v1 : Value} {rest : List Value} (hv : zCv t cn m = true) (h : zIn mid pc pc' (.invokevirtual idx) 3 [t, k1, k2, k3, 1, k5, k6]) (hM : M0[q]? = some (cn, nn)) (hr : rest.length ≤ 4) (hlen : (zargs (.ref q :: [v1])).length ≤ m)
    (hk : Zm G t (.ref q :: [v1]) I L (fun r I' L' => r = none ∧ Zp G mid pc' lo rest I' L' Q)) : Zp G mid pc lo (v1 :: .ref q :: rest) I L Q :=
  Zp.callv (As := [v1]) hv h hM rfl hr hlen (Zm.mono (fun r I' L' q => by obtain ⟨rfl, k⟩ := q; exact k) hk)
theorem Zp.calls1V {idx t k1 k2 k3 k5 m : Nat} {v1 : Value} {rest : List Value} (hv : zCs t m = true) (h : zIn mid pc pc' (.invokestatic idx) 3 [t, k1, k2, k3, 1, k5]) (hr : rest.length ≤ 4) (hlen : (zargs [v1]).length ≤ m)
    (hk : Zm G t [v1] I L (fun r I' L' => r = none ∧ Zp G mid pc' lo rest I' L' Q)) : Zp G mid pc lo (v1 :: rest) I L Q :=
  Zp.calls (As := [v1]) hv h rfl hr hlen (Zm.mono (fun r I' L' q => by obtain ⟨rfl, k⟩ := q; exact k) hk)
theorem Zp.callv1L {idx t k1 k2 k3 k5 k6 q cn nn m : Nat} {v1 : Value} {rest : List Value} (hv : zCv t cn m = true) (h : zIn mid pc pc' (.invokevirtual idx) 3 [t, k1, k2, k3, 1, k5, k6]) (hM : M0[q]? = some (cn, nn)) (hr : rest.length ≤ 4) (hlen : (zargs (.ref q :: [v1])).length ≤ m)
    (hk : Zm G t (.ref q :: [v1]) I L (fun r I' L' => ∃ v, r = some (.long v) ∧ Zp G mid pc' lo (.long v :: rest) I' L' Q)) : Zp G mid pc lo (v1 :: .ref q :: rest) I L Q :=
  Zp.callv (As := [v1]) hv h hM rfl hr hlen (Zm.mono (fun r I' L' q => by obtain ⟨v, rfl, k⟩ := q; exact k) hk)
theorem Zp.calls1L {idx t k1 k2 k3 k5 m : Nat} {v1 : Value} {rest : List Value} (hv : zCs t m = true) (h : zIn mid pc pc' (.invokestatic idx) 3 [t, k1, k2, k3, 1, k5]) (hr : rest.length ≤ 4) (hlen : (zargs [v1]).length ≤ m)
    (hk : Zm G t [v1] I L (fun r I' L' => ∃ v, r = some (.long v) ∧ Zp G mid pc' lo (.long v :: rest) I' L' Q)) : Zp G mid pc lo (v1 :: rest) I L Q :=
  Zp.calls (As := [v1]) hv h rfl hr hlen (Zm.mono (fun r I' L' q => by obtain ⟨v, rfl, k⟩ := q; exact k) hk)
theorem Zp.callv2I {idx t k1 k2 k3 k5 k6 q cn nn m : Nat} {v1 v2 : Value} {rest : List Value} (hv : zCv t cn m = true) (h : zIn mid pc pc' (.invokevirtual idx) 3 [t, k1, k2, k3, 2, k5, k6]) (hM : M0[q]? = some (cn, nn)) (hr : rest.length ≤ 4) (hlen : (zargs (.ref q :: [v1, v2])).length ≤ m)
    (hk : Zm G t (.ref q :: [v1, v2]) I L (fun r I' L' => ∃ v, r = some (.int v) ∧ Zp G mid pc' lo (.int v :: rest) I' L' Q)) : Zp G mid pc lo (v2 :: v1 :: .ref q :: rest) I L Q :=
  Zp.callv (As := [v1, v2]) hv h hM rfl hr hlen (Zm.mono (fun r I' L' q => by obtain ⟨v, rfl, k⟩ := q; exact k) hk)
theorem Zp.calls2I {idx t k1 k2 k3 k5 m : Nat} {v1 v2 : Value} {rest : List Value} (hv : zCs t m = true) (h : zIn mid pc pc' (.invokestatic idx) 3 [t, k1, k2, k3, 2, k5]) (hr : rest.length ≤ 4) (hlen : (zargs [v1, v2]).length ≤ m)
    (hk : Zm G t [v1, v2] I L (fun r I' L' => ∃ v, r = some (.int v) ∧ Zp G mid pc' lo (.int v :: rest) I' L' Q)) : Zp G mid pc lo (v2 :: v1 :: rest) I L Q :=
  Zp.calls (As := [v1, v2]) hv h rfl hr hlen (Zm.mono (fun r I' L' q => by obtain ⟨v, rfl, k⟩ := q; exact k) hk)
theorem Zp.callv2V {idx t k1 k2 k3 k5 k6 q cn nn m : Nat} {v1 v2 : Value} {rest : List Value} (hv : zCv t cn m = true) (h : zIn mid pc pc' (.invokevirtual idx) 3 [t, k1, k2, k3, 2, k5, k6]) (hM : M0[q]? = some (cn, nn)) (hr : rest.length ≤ 4) (hlen : (zargs (.ref q :: [v1, v2])).length ≤ m)
    (hk : Zm G t (.ref q :: [v1, v2]) I L (fun r I' L' => r = none ∧ Zp G mid pc' lo rest I' L' Q)) : Zp G mid pc lo (v2 :: v1 :: .ref q :: rest) I L Q :=
  Zp.callv (As := [v1, v2]) hv h hM rfl hr hlen (Zm.mono (fun r I' L' q => by obtain ⟨rfl, k⟩ := q; exact k) hk)
theorem Zp.calls2V {idx t k1 k2 k3 k5 m : Nat} {v1 v2 : Value} {rest : List Value} (hv : zCs t m = true) (h : zIn mid pc pc' (.invokestatic idx) 3 [t, k1, k2, k3, 2, k5]) (hr : rest.length ≤ 4) (hlen : (zargs [v1, v2]).length ≤ m)
    (hk : Zm G t [v1, v2] I L (fun r I' L' => r = none ∧ Zp G mid pc' lo rest I' L' Q)) : Zp G mid pc lo (v2 :: v1 :: rest) I L Q :=
  Zp.calls (As := [v1, v2]) hv h rfl hr hlen (Zm.mono (fun r I' L' q => by obtain ⟨rfl, k⟩ := q; exact k) hk)
theorem Zp.callv2L {idx t k1 k2 k3 k5 k6 q cn nn m : Nat} {v1 v2 : Value} {rest : List Value} (hv : zCv t cn m = true) (h : zIn mid pc pc' (.invokevirtual idx) 3 [t, k1, k2, k3, 2, k5, k6]) (hM : M0[q]? = some (cn, nn)) (hr : rest.length ≤ 4) (hlen : (zargs (.ref q :: [v1, v2])).length ≤ m)
    (hk : Zm G t (.ref q :: [v1, v2]) I L (fun r I' L' => ∃ v, r = some (.long v) ∧ Zp G mid pc' lo (.long v :: rest) I' L' Q)) : Zp G mid pc lo (v2 :: v1 :: .ref q :: rest) I L Q :=
  Zp.callv (As := [v1, v2]) hv h hM rfl hr hlen (Zm.mono (fun r I' L' q => by obtain ⟨v, rfl, k⟩ := q; exact k) hk)
theorem Zp.calls2L {idx t k1 k2 k3 k5 m : Nat} {v1 v2 : Value} {rest : List Value} (hv : zCs t m = true) (h : zIn mid pc pc' (.invokestatic idx) 3 [t, k1, k2, k3, 2, k5]) (hr : rest.length ≤ 4) (hlen : (zargs [v1, v2]).length ≤ m)
    (hk : Zm G t [v1, v2] I L (fun r I' L' => ∃ v, r = some (.long v) ∧ Zp G mid pc' lo (.long v :: rest) I' L' Q)) : Zp G mid pc lo (v2 :: v1 :: rest) I L Q :=
  Zp.calls (As := [v1, v2]) hv h rfl hr hlen (Zm.mono (fun r I' L' q => by obtain ⟨v, rfl, k⟩ := q; exact k) hk)
theorem Zp.callv3I {idx t k1 k2 k3 k5 k6 q cn nn m : Nat} {v1 v2 v3 : Value} {rest : List Value} (hv : zCv t cn m = true) (h : zIn mid pc pc' (.invokevirtual idx) 3 [t, k1, k2, k3, 3, k5, k6]) (hM : M0[q]? = some (cn, nn)) (hr : rest.length ≤ 4) (hlen : (zargs (.ref q :: [v1, v2, v3])).length ≤ m)
    (hk : Zm G t (.ref q :: [v1, v2, v3]) I L (fun r I' L' => ∃ v, r = some (.int v) ∧ Zp G mid pc' lo (.int v :: rest) I' L' Q)) : Zp G mid pc lo (v3 :: v2 :: v1 :: .ref q :: rest) I L Q :=
  Zp.callv (As := [v1, v2, v3]) hv h hM rfl hr hlen (Zm.mono (fun r I' L' q => by obtain ⟨v, rfl, k⟩ := q; exact k) hk)
theorem Zp.calls3I {idx t k1 k2 k3 k5 m : Nat} {v1 v2 v3 : Value} {rest : List Value} (hv : zCs t m = true) (h : zIn mid pc pc' (.invokestatic idx) 3 [t, k1, k2, k3, 3, k5]) (hr : rest.length ≤ 4) (hlen : (zargs [v1, v2, v3]).length ≤ m)
    (hk : Zm G t [v1, v2, v3] I L (fun r I' L' => ∃ v, r = some (.int v) ∧ Zp G mid pc' lo (.int v :: rest) I' L' Q)) : Zp G mid pc lo (v3 :: v2 :: v1 :: rest) I L Q :=
  Zp.calls (As := [v1, v2, v3]) hv h rfl hr hlen (Zm.mono (fun r I' L' q => by obtain ⟨v, rfl, k⟩ := q; exact k) hk)
theorem Zp.callv3V {idx t k1 k2 k3 k5 k6 q cn nn m : Nat} {v1 v2 v3 : Value} {rest : List Value} (hv : zCv t cn m = true) (h : zIn mid pc pc' (.invokevirtual idx) 3 [t, k1, k2, k3, 3, k5, k6]) (hM : M0[q]? = some (cn, nn)) (hr : rest.length ≤ 4) (hlen : (zargs (.ref q :: [v1, v2, v3])).length ≤ m)
    (hk : Zm G t (.ref q :: [v1, v2, v3]) I L (fun r I' L' => r = none ∧ Zp G mid pc' lo rest I' L' Q)) : Zp G mid pc lo (v3 :: v2 :: v1 :: .ref q :: rest) I L Q :=
  Zp.callv (As := [v1, v2, v3]) hv h hM rfl hr hlen (Zm.mono (fun r I' L' q => by obtain ⟨rfl, k⟩ := q; exact k) hk)
theorem Zp.calls3V {idx t k1 k2 k3 k5 m : Nat} {v1 v2 v3 : Value} {rest : List Value} (hv : zCs t m = true) (h : zIn mid pc pc' (.invokestatic idx) 3 [t, k1, k2, k3, 3, k5]) (hr : rest.length ≤ 4) (hlen : (zargs [v1, v2, v3]).length ≤ m)
    (hk : Zm G t [v1, v2, v3] I L (fun r I' L' => r = none ∧ Zp G mid pc' lo rest I' L' Q)) : Zp G mid pc lo (v3 :: v2 :: v1 :: rest) I L Q :=
  Zp.calls (As := [v1, v2, v3]) hv h rfl hr hlen (Zm.mono (fun r I' L' q => by obtain ⟨rfl, k⟩ := q; exact k) hk)
theorem Zp.callv3L {idx t k1 k2 k3 k5 k6 q cn nn m : Nat} {v1 v2 v3 : Value} {rest : List Value} (hv : zCv t cn m = true) (h : zIn mid pc pc' (.invokevirtual idx) 3 [t, k1, k2, k3, 3, k5, k6]) (hM : M0[q]? = some (cn, nn)) (hr : rest.length ≤ 4) (hlen : (zargs (.ref q :: [v1, v2, v3])).length ≤ m)
    (hk : Zm G t (.ref q :: [v1, v2, v3]) I L (fun r I' L' => ∃ v, r = some (.long v) ∧ Zp G mid pc' lo (.long v :: rest) I' L' Q)) : Zp G mid pc lo (v3 :: v2 :: v1 :: .ref q :: rest) I L Q :=
  Zp.callv (As := [v1, v2, v3]) hv h hM rfl hr hlen (Zm.mono (fun r I' L' q => by obtain ⟨v, rfl, k⟩ := q; exact k) hk)
theorem Zp.calls3L {idx t k1 k2 k3 k5 m : Nat} {v1 v2 v3 : Value} {rest : List Value} (hv : zCs t m = true) (h : zIn mid pc pc' (.invokestatic idx) 3 [t, k1, k2, k3, 3, k5]) (hr : rest.length ≤ 4) (hlen : (zargs [v1, v2, v3]).length ≤ m)
    (hk : Zm G t [v1, v2, v3] I L (fun r I' L' => ∃ v, r = some (.long v) ∧ Zp G mid pc' lo (.long v :: rest) I' L' Q)) : Zp G mid pc lo (v3 :: v2 :: v1 :: rest) I L Q :=
  Zp.calls (As := [v1, v2, v3]) hv h rfl hr hlen (Zm.mono (fun r I' L' q => by obtain ⟨v, rfl, k⟩ := q; exact k) hk)
theorem Zp.callv4I {idx t k1 k2 k3 k5 k6 q cn nn m : Nat} {v1 v2 v3 v4 : Value} {rest : List Value} (hv : zCv t cn m = true) (h : zIn mid pc pc' (.invokevirtual idx) 3 [t, k1, k2, k3, 4, k5, k6]) (hM : M0[q]? = some (cn, nn)) (hr : rest.length ≤ 4) (hlen : (zargs (.ref q :: [v1, v2, v3, v4])).length ≤ m)
    (hk : Zm G t (.ref q :: [v1, v2, v3, v4]) I L (fun r I' L' => ∃ v, r = some (.int v) ∧ Zp G mid pc' lo (.int v :: rest) I' L' Q)) : Zp G mid pc lo (v4 :: v3 :: v2 :: v1 :: .ref q :: rest) I L Q :=
  Zp.callv (As := [v1, v2, v3, v4]) hv h hM rfl hr hlen (Zm.mono (fun r I' L' q => by obtain ⟨v, rfl, k⟩ := q; exact k) hk)
theorem Zp.calls4I {idx t k1 k2 k3 k5 m : Nat} {v1 v2 v3 v4 : Value} {rest : List Value} (hv : zCs t m = true) (h : zIn mid pc pc' (.invokestatic idx) 3 [t, k1, k2, k3, 4, k5]) (hr : rest.length ≤ 4) (hlen : (zargs [v1, v2, v3, v4]).length ≤ m)
    (hk : Zm G t [v1, v2, v3, v4] I L (fun r I' L' => ∃ v, r = some (.int v) ∧ Zp G mid pc' lo (.int v :: rest) I' L' Q)) : Zp G mid pc lo (v4 :: v3 :: v2 :: v1 :: rest) I L Q :=
  Zp.calls (As := [v1, v2, v3, v4]) hv h rfl hr hlen (Zm.mono (fun r I' L' q => by obtain ⟨v, rfl, k⟩ := q; exact k) hk)
theorem Zp.callv4V {idx t k1 k2 k3 k5 k6 q cn nn m : Nat} {v1 v2 v3 v4 : Value} {rest : List Value} (hv : zCv t cn m = true) (h : zIn mid pc pc' (.invokevirtual idx) 3 [t, k1, k2, k3, 4, k5, k6]) (hM : M0[q]? = some (cn, nn)) (hr : rest.length ≤ 4) (hlen : (zargs (.ref q :: [v1, v2, v3, v4])).length ≤ m)
    (hk : Zm G t (.ref q :: [v1, v2, v3, v4]) I L (fun r I' L' => r = none ∧ Zp G mid pc' lo rest I' L' Q)) : Zp G mid pc lo (v4 :: v3 :: v2 :: v1 :: .ref q :: rest) I L Q :=
  Zp.callv (As := [v1, v2, v3, v4]) hv h hM rfl hr hlen (Zm.mono (fun r I' L' q => by obtain ⟨rfl, k⟩ := q; exact k) hk)
theorem Zp.calls4V {idx t k1 k2 k3 k5 m : Nat} {v1 v2 v3 v4 : Value} {rest : List Value} (hv : zCs t m = true) (h : zIn mid pc pc' (.invokestatic idx) 3 [t, k1, k2, k3, 4, k5]) (hr : rest.length ≤ 4) (hlen : (zargs [v1, v2, v3, v4]).length ≤ m)
    (hk : Zm G t [v1, v2, v3, v4] I L (fun r I' L' => r = none ∧ Zp G mid pc' lo rest I' L' Q)) : Zp G mid pc lo (v4 :: v3 :: v2 :: v1 :: rest) I L Q :=
  Zp.calls (As := [v1, v2, v3, v4]) hv h rfl hr hlen (Zm.mono (fun r I' L' q => by obtain ⟨rfl, k⟩ := q; exact k) hk)
theorem Zp.callv4L {idx t k1 k2 k3 k5 k6 q cn nn m : Nat} {v1 v2 v3 v4 : Value} {rest : List Value} (hv : zCv t cn m = true) (h : zIn mid pc pc' (.invokevirtual idx) 3 [t, k1, k2, k3, 4, k5, k6]) (hM : M0[q]? = some (cn, nn)) (hr : rest.length ≤ 4) (hlen : (zargs (.ref q :: [v1, v2, v3, v4])).length ≤ m)
    (hk : Zm G t (.ref q :: [v1, v2, v3, v4]) I L (fun r I' L' => ∃ v, r = some (.long v) ∧ Zp G mid pc' lo (.long v :: rest) I' L' Q)) : Zp G mid pc lo (v4 :: v3 :: v2 :: v1 :: .ref q :: rest) I L Q :=
  Zp.callv (As := [v1, v2, v3, v4]) hv h hM rfl hr hlen (Zm.mono (fun r I' L' q => by obtain ⟨v, rfl, k⟩ := q; exact k) hk)
theorem Zp.calls4L {idx t k1 k2 k3 k5 m : Nat} {v1 v2 v3 v4 : Value} {rest : List Value} (hv : zCs t m = true) (h : zIn mid pc pc' (.invokestatic idx) 3 [t, k1, k2, k3, 4, k5]) (hr : rest.length ≤ 4) (hlen : (zargs [v1, v2, v3, v4]).length ≤ m)
    (hk : Zm G t [v1, v2, v3, v4] I L (fun r I' L' => ∃ v, r = some (.long v) ∧ Zp G mid pc' lo (.long v :: rest) I' L' Q)) : Zp G mid pc lo (v4 :: v3 :: v2 :: v1 :: rest) I L Q :=
  Zp.calls (As := [v1, v2, v3, v4]) hv h rfl hr hlen (Zm.mono (fun r I' L' q => by obtain ⟨v, rfl, k⟩ := q; exact k) hk)
end ZPC
theorem m_0 : M0[0]? = some (10, 0) := rfl
theorem m_1 : M0[1]? = some (0, 0) := rfl
theorem m_2 : M0[2]? = some (8, 0) := rfl
theorem m_3 : M0[3]? = some (50, 5) := rfl
theorem m_4 : M0[4]? = some (50, 25) := rfl
theorem m_5 : M0[5]? = some (7, 0) := rfl
theorem m_6 : M0[6]? = some (50, 6) := rfl
theorem m_7 : M0[7]? = some (50, 6) := rfl
theorem m_8 : M0[8]? = some (50, 6) := rfl
theorem m_9 : M0[9]? = some (2, 0) := rfl
theorem m_10 : M0[10]? = some (50, 8) := rfl
theorem m_11 : M0[11]? = some (5, 0) := rfl
theorem m_12 : M0[12]? = some (50, 6) := rfl
theorem m_13 : M0[13]? = some (50, 6) := rfl
theorem m_14 : M0[14]? = some (53, 2) := rfl
theorem m_15 : M0[15]? = some (3, 0) := rfl
theorem m_16 : M0[16]? = some (0, 0) := rfl
theorem m_17 : M0[17]? = some (8, 0) := rfl
theorem m_18 : M0[18]? = some (50, 5) := rfl
theorem m_19 : M0[19]? = some (50, 25) := rfl
theorem m_20 : M0[20]? = some (7, 0) := rfl
theorem m_21 : M0[21]? = some (50, 6) := rfl
theorem m_22 : M0[22]? = some (50, 6) := rfl
theorem m_23 : M0[23]? = some (50, 6) := rfl
theorem m_24 : M0[24]? = some (2, 0) := rfl
theorem m_25 : M0[25]? = some (50, 8) := rfl
theorem m_26 : M0[26]? = some (5, 0) := rfl
theorem m_27 : M0[27]? = some (50, 6) := rfl
theorem m_28 : M0[28]? = some (50, 6) := rfl
theorem m_29 : M0[29]? = some (9, 0) := rfl
theorem m_30 : M0[30]? = some (51, 160) := rfl
theorem m_31 : M0[31]? = some (8, 0) := rfl
theorem m_32 : M0[32]? = some (50, 5) := rfl
theorem m_33 : M0[33]? = some (50, 25) := rfl
theorem m_34 : M0[34]? = some (4, 0) := rfl
theorem m_35 : M0[35]? = some (50, 4) := rfl
theorem m_36 : M0[36]? = some (50, 10) := rfl
theorem m_37 : M0[37]? = some (50, 4) := rfl
theorem m_38 : M0[38]? = some (61, 5) := rfl
theorem m_39 : M0[39]? = some (8, 0) := rfl
theorem m_40 : M0[40]? = some (50, 5) := rfl
theorem m_41 : M0[41]? = some (50, 25) := rfl
theorem m_42 : M0[42]? = some (8, 0) := rfl
theorem m_43 : M0[43]? = some (50, 5) := rfl
theorem m_44 : M0[44]? = some (50, 25) := rfl
theorem m_45 : M0[45]? = some (8, 0) := rfl
theorem m_46 : M0[46]? = some (50, 5) := rfl
theorem m_47 : M0[47]? = some (50, 25) := rfl
theorem m_48 : M0[48]? = some (8, 0) := rfl
theorem m_49 : M0[49]? = some (50, 5) := rfl
theorem m_50 : M0[50]? = some (50, 25) := rfl
theorem m_51 : M0[51]? = some (8, 0) := rfl
theorem m_52 : M0[52]? = some (50, 5) := rfl
theorem m_53 : M0[53]? = some (50, 25) := rfl
theorem m_54 : M0[54]? = some (1, 0) := rfl
theorem m_55 : M0[55]? = some (50, 5) := rfl
theorem m_56 : M0[56]? = some (50, 5) := rfl
theorem m_57 : M0[57]? = some (50, 5) := rfl
theorem m_58 : M0[58]? = some (59, 4) := rfl
theorem m_59 : M0[59]? = some (0, 0) := rfl
theorem m_60 : M0[60]? = some (8, 0) := rfl
theorem m_61 : M0[61]? = some (50, 5) := rfl
theorem m_62 : M0[62]? = some (50, 25) := rfl
theorem m_63 : M0[63]? = some (7, 0) := rfl
theorem m_64 : M0[64]? = some (50, 6) := rfl
theorem m_65 : M0[65]? = some (50, 6) := rfl
theorem m_66 : M0[66]? = some (50, 6) := rfl
theorem m_67 : M0[67]? = some (2, 0) := rfl
theorem m_68 : M0[68]? = some (50, 8) := rfl
theorem m_69 : M0[69]? = some (5, 0) := rfl
theorem m_70 : M0[70]? = some (50, 6) := rfl
theorem m_71 : M0[71]? = some (50, 6) := rfl
theorem m_72 : M0[72]? = some (0, 0) := rfl
theorem m_73 : M0[73]? = some (8, 0) := rfl
theorem m_74 : M0[74]? = some (50, 5) := rfl
theorem m_75 : M0[75]? = some (50, 25) := rfl
theorem m_76 : M0[76]? = some (7, 0) := rfl
theorem m_77 : M0[77]? = some (50, 6) := rfl
theorem m_78 : M0[78]? = some (50, 6) := rfl
theorem m_79 : M0[79]? = some (50, 6) := rfl
theorem m_80 : M0[80]? = some (2, 0) := rfl
theorem m_81 : M0[81]? = some (50, 8) := rfl
theorem m_82 : M0[82]? = some (5, 0) := rfl
theorem m_83 : M0[83]? = some (50, 6) := rfl
theorem m_84 : M0[84]? = some (50, 6) := rfl
theorem m_85 : M0[85]? = some (6, 0) := rfl
theorem m_86 : M0[86]? = some (50, 40) := rfl
theorem m_87 : M0[87]? = some (6, 0) := rfl
theorem m_88 : M0[88]? = some (50, 40) := rfl
theorem m_89 : M0[89]? = some (6, 0) := rfl
theorem m_90 : M0[90]? = some (50, 40) := rfl
theorem m_91 : M0[91]? = some (6, 0) := rfl
theorem m_92 : M0[92]? = some (50, 40) := rfl
theorem m_93 : M0[93]? = some (11, 0) := rfl
theorem m_94 : M0[94]? = some (50, 174) := rfl
theorem m_95 : M0[95]? = some (50, 58) := rfl
theorem m_96 : M0[96]? = some (52, 2) := rfl
theorem m_97 : M0[97]? = some (50, 6) := rfl
theorem m_98 : M0[98]? = some (50, 6) := rfl
theorem m_99 : M0[99]? = some (50, 6) := rfl
theorem m_100 : M0[100]? = some (50, 58) := rfl
theorem m_101 : M0[101]? = some (50, 6) := rfl
theorem m_102 : M0[102]? = some (50, 6) := rfl
theorem m_103 : M0[103]? = some (50, 6) := rfl
theorem m_104 : M0[104]? = some (50, 160) := rfl
theorem m_105 : M0[105]? = some (50, 10) := rfl
theorem m_106 : M0[106]? = some (50, 5) := rfl
theorem m_107 : M0[107]? = some (50, 4) := rfl
theorem m_108 : M0[108]? = some (50, 4) := rfl
theorem m_109 : M0[109]? = some (50, 160) := rfl
theorem m_110 : M0[110]? = some (50, 58) := rfl
theorem r_0_0 : (0, 0, 1) ∈ R0 := by decide +kernel
theorem r_0_1 : (0, 1, 14) ∈ R0 := by decide +kernel
theorem r_0_3 : (0, 3, 15) ∈ R0 := by decide +kernel
theorem r_0_4 : (0, 4, 29) ∈ R0 := by decide +kernel
theorem r_0_5 : (0, 5, 31) ∈ R0 := by decide +kernel
theorem r_0_6 : (0, 6, 34) ∈ R0 := by decide +kernel
theorem r_0_7 : (0, 7, 54) ∈ R0 := by decide +kernel
theorem r_0_8 : (0, 8, 58) ∈ R0 := by decide +kernel
theorem r_1_0 : (1, 0, 2) ∈ R0 := by decide +kernel
theorem r_1_1 : (1, 1, 5) ∈ R0 := by decide +kernel
theorem r_1_2 : (1, 2, 9) ∈ R0 := by decide +kernel
theorem r_1_3 : (1, 3, 11) ∈ R0 := by decide +kernel
theorem r_2_6 : (2, 6, 3) ∈ R0 := by decide +kernel
theorem r_2_7 : (2, 7, 4) ∈ R0 := by decide +kernel
theorem r_5_2 : (5, 2, 6) ∈ R0 := by decide +kernel
theorem r_5_3 : (5, 3, 7) ∈ R0 := by decide +kernel
theorem r_5_4 : (5, 4, 8) ∈ R0 := by decide +kernel
theorem r_9_1 : (9, 1, 10) ∈ R0 := by decide +kernel
theorem r_11_1 : (11, 1, 12) ∈ R0 := by decide +kernel
theorem r_11_2 : (11, 2, 13) ∈ R0 := by decide +kernel
theorem r_14_0 : (14, 0, 59) ∈ R0 := by decide +kernel
theorem r_14_1 : (14, 1, 72) ∈ R0 := by decide +kernel
theorem r_15_0 : (15, 0, 16) ∈ R0 := by decide +kernel
theorem r_15_4 : (15, 4, 29) ∈ R0 := by decide +kernel
theorem r_16_0 : (16, 0, 17) ∈ R0 := by decide +kernel
theorem r_16_1 : (16, 1, 20) ∈ R0 := by decide +kernel
theorem r_16_2 : (16, 2, 24) ∈ R0 := by decide +kernel
theorem r_16_3 : (16, 3, 26) ∈ R0 := by decide +kernel
theorem r_17_6 : (17, 6, 18) ∈ R0 := by decide +kernel
theorem r_17_7 : (17, 7, 19) ∈ R0 := by decide +kernel
theorem r_20_2 : (20, 2, 21) ∈ R0 := by decide +kernel
theorem r_20_3 : (20, 3, 22) ∈ R0 := by decide +kernel
theorem r_20_4 : (20, 4, 23) ∈ R0 := by decide +kernel
theorem r_24_1 : (24, 1, 25) ∈ R0 := by decide +kernel
theorem r_26_1 : (26, 1, 27) ∈ R0 := by decide +kernel
theorem r_26_2 : (26, 2, 28) ∈ R0 := by decide +kernel
theorem r_29_0 : (29, 0, 30) ∈ R0 := by decide +kernel
theorem r_31_6 : (31, 6, 32) ∈ R0 := by decide +kernel
theorem r_31_7 : (31, 7, 33) ∈ R0 := by decide +kernel
theorem r_34_3 : (34, 3, 35) ∈ R0 := by decide +kernel
theorem r_34_4 : (34, 4, 36) ∈ R0 := by decide +kernel
theorem r_34_7 : (34, 7, 37) ∈ R0 := by decide +kernel
theorem r_34_8 : (34, 8, 38) ∈ R0 := by decide +kernel
theorem r_38_0 : (38, 0, 39) ∈ R0 := by decide +kernel
theorem r_38_1 : (38, 1, 42) ∈ R0 := by decide +kernel
theorem r_38_2 : (38, 2, 45) ∈ R0 := by decide +kernel
theorem r_38_3 : (38, 3, 48) ∈ R0 := by decide +kernel
theorem r_38_4 : (38, 4, 51) ∈ R0 := by decide +kernel
theorem r_39_6 : (39, 6, 40) ∈ R0 := by decide +kernel
theorem r_39_7 : (39, 7, 41) ∈ R0 := by decide +kernel
theorem r_42_6 : (42, 6, 43) ∈ R0 := by decide +kernel
theorem r_42_7 : (42, 7, 44) ∈ R0 := by decide +kernel
theorem r_45_6 : (45, 6, 46) ∈ R0 := by decide +kernel
theorem r_45_7 : (45, 7, 47) ∈ R0 := by decide +kernel
theorem r_48_6 : (48, 6, 49) ∈ R0 := by decide +kernel
theorem r_48_7 : (48, 7, 50) ∈ R0 := by decide +kernel
theorem r_51_6 : (51, 6, 52) ∈ R0 := by decide +kernel
theorem r_51_7 : (51, 7, 53) ∈ R0 := by decide +kernel
theorem r_54_1 : (54, 1, 55) ∈ R0 := by decide +kernel
theorem r_54_2 : (54, 2, 56) ∈ R0 := by decide +kernel
theorem r_54_3 : (54, 3, 57) ∈ R0 := by decide +kernel
theorem r_58_0 : (58, 0, 85) ∈ R0 := by decide +kernel
theorem r_58_1 : (58, 1, 87) ∈ R0 := by decide +kernel
theorem r_58_2 : (58, 2, 89) ∈ R0 := by decide +kernel
theorem r_58_3 : (58, 3, 91) ∈ R0 := by decide +kernel
theorem r_59_0 : (59, 0, 60) ∈ R0 := by decide +kernel
theorem r_59_1 : (59, 1, 63) ∈ R0 := by decide +kernel
theorem r_59_2 : (59, 2, 67) ∈ R0 := by decide +kernel
theorem r_59_3 : (59, 3, 69) ∈ R0 := by decide +kernel
theorem r_60_6 : (60, 6, 61) ∈ R0 := by decide +kernel
theorem r_60_7 : (60, 7, 62) ∈ R0 := by decide +kernel
theorem r_63_2 : (63, 2, 64) ∈ R0 := by decide +kernel
theorem r_63_3 : (63, 3, 65) ∈ R0 := by decide +kernel
theorem r_63_4 : (63, 4, 66) ∈ R0 := by decide +kernel
theorem r_67_1 : (67, 1, 68) ∈ R0 := by decide +kernel
theorem r_69_1 : (69, 1, 70) ∈ R0 := by decide +kernel
theorem r_69_2 : (69, 2, 71) ∈ R0 := by decide +kernel
theorem r_72_0 : (72, 0, 73) ∈ R0 := by decide +kernel
theorem r_72_1 : (72, 1, 76) ∈ R0 := by decide +kernel
theorem r_72_2 : (72, 2, 80) ∈ R0 := by decide +kernel
theorem r_72_3 : (72, 3, 82) ∈ R0 := by decide +kernel
theorem r_73_6 : (73, 6, 74) ∈ R0 := by decide +kernel
theorem r_73_7 : (73, 7, 75) ∈ R0 := by decide +kernel
theorem r_76_2 : (76, 2, 77) ∈ R0 := by decide +kernel
theorem r_76_3 : (76, 3, 78) ∈ R0 := by decide +kernel
theorem r_76_4 : (76, 4, 79) ∈ R0 := by decide +kernel
theorem r_80_1 : (80, 1, 81) ∈ R0 := by decide +kernel
theorem r_82_1 : (82, 1, 83) ∈ R0 := by decide +kernel
theorem r_82_2 : (82, 2, 84) ∈ R0 := by decide +kernel
theorem r_85_1 : (85, 1, 86) ∈ R0 := by decide +kernel
theorem r_87_1 : (87, 1, 88) ∈ R0 := by decide +kernel
theorem r_89_1 : (89, 1, 90) ∈ R0 := by decide +kernel
theorem r_91_1 : (91, 1, 92) ∈ R0 := by decide +kernel
theorem r_93_0 : (93, 0, 94) ∈ R0 := by decide +kernel
theorem r_93_1 : (93, 1, 95) ∈ R0 := by decide +kernel
theorem r_93_2 : (93, 2, 96) ∈ R0 := by decide +kernel
theorem r_93_5 : (93, 5, 97) ∈ R0 := by decide +kernel
theorem r_93_6 : (93, 6, 98) ∈ R0 := by decide +kernel
theorem r_93_7 : (93, 7, 99) ∈ R0 := by decide +kernel
theorem r_93_8 : (93, 8, 100) ∈ R0 := by decide +kernel
theorem r_93_11 : (93, 11, 101) ∈ R0 := by decide +kernel
theorem r_93_12 : (93, 12, 102) ∈ R0 := by decide +kernel
theorem r_93_13 : (93, 13, 103) ∈ R0 := by decide +kernel
theorem r_93_17 : (93, 17, 104) ∈ R0 := by decide +kernel
theorem r_93_26 : (93, 26, 105) ∈ R0 := by decide +kernel
theorem r_93_27 : (93, 27, 106) ∈ R0 := by decide +kernel
theorem r_93_31 : (93, 31, 107) ∈ R0 := by decide +kernel
theorem r_93_32 : (93, 32, 108) ∈ R0 := by decide +kernel
theorem r_93_33 : (93, 33, 109) ∈ R0 := by decide +kernel
theorem r_93_35 : (93, 35, 110) ∈ R0 := by decide +kernel
